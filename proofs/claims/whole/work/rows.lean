section
-- ===== PART A: goes FIRST, ahead of the names: the tables' words, and 'selects' of the private methods out of them =====
/-- a private method of a class that the tables say can be made, by its rows of tables_1 -/
def lw_okq (q : MethodName × Nat) : Prop := (q.1.cls ≠ "java/lang/invoke/MethodHandle" ∧ q.1.cls ≠ "java/lang/invoke/VarHandle") ∧ Cond.instantiable q.1.cls q.2 ∈ tables_1 ∧ Cond.privateMethod q.1 ∈ tables_1 ∧ Cond.instanceMethod q.1 ∈ tables_1
theorem lw_p0 : lw_okq (⟨"java/lang/Throwable", "fillInStackTrace", "(I)Ljava/lang/Throwable;"⟩, 6) := ⟨⟨by decide +kernel, by decide +kernel⟩, List.mem_of_getElem? (i := 428) (by decide +kernel), List.mem_of_getElem? (i := 426) (by decide +kernel), List.mem_of_getElem? (i := 427) (by decide +kernel)⟩
theorem lw_p1 : lw_okq (⟨"PetitionBoard", "placeStone", "(II)I"⟩, 15) := ⟨⟨by decide +kernel, by decide +kernel⟩, List.mem_of_getElem? (i := 28) (by decide +kernel), List.mem_of_getElem? (i := 485) (by decide +kernel), List.mem_of_getElem? (i := 486) (by decide +kernel)⟩
theorem lw_p2 : lw_okq (⟨"PetitionBoard", "deny", "(II)I"⟩, 15) := ⟨⟨by decide +kernel, by decide +kernel⟩, List.mem_of_getElem? (i := 28) (by decide +kernel), List.mem_of_getElem? (i := 496) (by decide +kernel), List.mem_of_getElem? (i := 497) (by decide +kernel)⟩
theorem lw_p3 : lw_okq (⟨"PetitionBoard", "conclude", "(I)I"⟩, 15) := ⟨⟨by decide +kernel, by decide +kernel⟩, List.mem_of_getElem? (i := 28) (by decide +kernel), List.mem_of_getElem? (i := 504) (by decide +kernel), List.mem_of_getElem? (i := 505) (by decide +kernel)⟩
theorem lw_p4 : lw_okq (⟨"PetitionBoard", "keepDenial", "(IIII)V"⟩, 15) := ⟨⟨by decide +kernel, by decide +kernel⟩, List.mem_of_getElem? (i := 28) (by decide +kernel), List.mem_of_getElem? (i := 553) (by decide +kernel), List.mem_of_getElem? (i := 554) (by decide +kernel)⟩
theorem lw_p5 : lw_okq (⟨"PetitionBoard", "enlistOfficer", "(I)I"⟩, 15) := ⟨⟨by decide +kernel, by decide +kernel⟩, List.mem_of_getElem? (i := 28) (by decide +kernel), List.mem_of_getElem? (i := 584) (by decide +kernel), List.mem_of_getElem? (i := 585) (by decide +kernel)⟩
theorem lw_p6 : lw_okq (⟨"PetitionBoard", "lodgePetition", "(IIII)I"⟩, 15) := ⟨⟨by decide +kernel, by decide +kernel⟩, List.mem_of_getElem? (i := 28) (by decide +kernel), List.mem_of_getElem? (i := 647) (by decide +kernel), List.mem_of_getElem? (i := 648) (by decide +kernel)⟩
theorem lw_p7 : lw_okq (⟨"PetitionBoard$State", "moveToItsPosition", "(LPetitionBoard$Petition;)V"⟩, 14) := ⟨⟨by decide +kernel, by decide +kernel⟩, List.mem_of_getElem? (i := 36) (by decide +kernel), List.mem_of_getElem? (i := 663) (by decide +kernel), List.mem_of_getElem? (i := 664) (by decide +kernel)⟩
theorem lw_p8 : lw_okq (⟨"PetitionBoard", "castVote", "(IIZ)I"⟩, 15) := ⟨⟨by decide +kernel, by decide +kernel⟩, List.mem_of_getElem? (i := 28) (by decide +kernel), List.mem_of_getElem? (i := 678) (by decide +kernel), List.mem_of_getElem? (i := 679) (by decide +kernel)⟩
theorem lw_p9 : lw_okq (⟨"PetitionBoard", "citeRuling", "(II)I"⟩, 15) := ⟨⟨by decide +kernel, by decide +kernel⟩, List.mem_of_getElem? (i := 28) (by decide +kernel), List.mem_of_getElem? (i := 723) (by decide +kernel), List.mem_of_getElem? (i := 724) (by decide +kernel)⟩
theorem lw_p10 : lw_okq (⟨"PetitionBoard", "vetoPetition", "(II)I"⟩, 15) := ⟨⟨by decide +kernel, by decide +kernel⟩, List.mem_of_getElem? (i := 28) (by decide +kernel), List.mem_of_getElem? (i := 756) (by decide +kernel), List.mem_of_getElem? (i := 757) (by decide +kernel)⟩
theorem lw_p11 : lw_okq (⟨"PetitionBoard", "withdrawPetition", "(I)I"⟩, 15) := ⟨⟨by decide +kernel, by decide +kernel⟩, List.mem_of_getElem? (i := 28) (by decide +kernel), List.mem_of_getElem? (i := 771) (by decide +kernel), List.mem_of_getElem? (i := 772) (by decide +kernel)⟩
theorem lw_p12 : lw_okq (⟨"PetitionBoard", "requirePetition", "(I)LPetitionBoard$Petition;"⟩, 15) := ⟨⟨by decide +kernel, by decide +kernel⟩, List.mem_of_getElem? (i := 28) (by decide +kernel), List.mem_of_getElem? (i := 790) (by decide +kernel), List.mem_of_getElem? (i := 791) (by decide +kernel)⟩
theorem lw_p13 : lw_okq (⟨"PetitionBoard", "changeQuorum", "(I)I"⟩, 15) := ⟨⟨by decide +kernel, by decide +kernel⟩, List.mem_of_getElem? (i := 28) (by decide +kernel), List.mem_of_getElem? (i := 851) (by decide +kernel), List.mem_of_getElem? (i := 852) (by decide +kernel)⟩
theorem lw_p14 : lw_okq (⟨"PetitionBoard", "decideFirst", "()I"⟩, 15) := ⟨⟨by decide +kernel, by decide +kernel⟩, List.mem_of_getElem? (i := 28) (by decide +kernel), List.mem_of_getElem? (i := 862) (by decide +kernel), List.mem_of_getElem? (i := 863) (by decide +kernel)⟩
theorem lw_p15 : lw_okq (⟨"PetitionBoard$State", "levelAbove", "(LPetitionBoard$Citing;)I"⟩, 14) := ⟨⟨by decide +kernel, by decide +kernel⟩, List.mem_of_getElem? (i := 36) (by decide +kernel), List.mem_of_getElem? (i := 871) (by decide +kernel), List.mem_of_getElem? (i := 872) (by decide +kernel)⟩
def lw_privs_1 : List (MethodName × Nat) := [(⟨"java/lang/Throwable", "fillInStackTrace", "(I)Ljava/lang/Throwable;"⟩, 6), (⟨"PetitionBoard", "placeStone", "(II)I"⟩, 15), (⟨"PetitionBoard", "deny", "(II)I"⟩, 15), (⟨"PetitionBoard", "conclude", "(I)I"⟩, 15), (⟨"PetitionBoard", "keepDenial", "(IIII)V"⟩, 15), (⟨"PetitionBoard", "enlistOfficer", "(I)I"⟩, 15), (⟨"PetitionBoard", "lodgePetition", "(IIII)I"⟩, 15), (⟨"PetitionBoard$State", "moveToItsPosition", "(LPetitionBoard$Petition;)V"⟩, 14), (⟨"PetitionBoard", "castVote", "(IIZ)I"⟩, 15), (⟨"PetitionBoard", "citeRuling", "(II)I"⟩, 15), (⟨"PetitionBoard", "vetoPetition", "(II)I"⟩, 15), (⟨"PetitionBoard", "withdrawPetition", "(I)I"⟩, 15), (⟨"PetitionBoard", "requirePetition", "(I)LPetitionBoard$Petition;"⟩, 15), (⟨"PetitionBoard", "changeQuorum", "(I)I"⟩, 15), (⟨"PetitionBoard", "decideFirst", "()I"⟩, 15), (⟨"PetitionBoard$State", "levelAbove", "(LPetitionBoard$Citing;)I"⟩, 14)]
theorem lw_r1 : ∀ q ∈ lw_privs_1, lw_okq q := List.forall_mem_cons.mpr ⟨lw_p0, List.forall_mem_cons.mpr ⟨lw_p1, List.forall_mem_cons.mpr ⟨lw_p2, List.forall_mem_cons.mpr ⟨lw_p3, List.forall_mem_cons.mpr ⟨lw_p4, List.forall_mem_cons.mpr ⟨lw_p5, List.forall_mem_cons.mpr ⟨lw_p6, List.forall_mem_cons.mpr ⟨lw_p7, List.forall_mem_cons.mpr ⟨lw_p8, List.forall_mem_cons.mpr ⟨lw_p9, List.forall_mem_cons.mpr ⟨lw_p10, List.forall_mem_cons.mpr ⟨lw_p11, List.forall_mem_cons.mpr ⟨lw_p12, List.forall_mem_cons.mpr ⟨lw_p13, List.forall_mem_cons.mpr ⟨lw_p14, List.forall_mem_cons.mpr ⟨lw_p15, fun _ h => absurd h List.not_mem_nil⟩⟩⟩⟩⟩⟩⟩⟩⟩⟩⟩⟩⟩⟩⟩⟩
theorem lw_p16 : lw_okq (⟨"PetitionBoard$State", "moveStone", "(II)V"⟩, 14) := ⟨⟨by decide +kernel, by decide +kernel⟩, List.mem_of_getElem? (i := 36) (by decide +kernel), List.mem_of_getElem? (i := 878) (by decide +kernel), List.mem_of_getElem? (i := 879) (by decide +kernel)⟩
theorem lw_p17 : lw_okq (⟨"PetitionBoard", "requireRuling", "(I)LPetitionBoard$Ruling;"⟩, 15) := ⟨⟨by decide +kernel, by decide +kernel⟩, List.mem_of_getElem? (i := 28) (by decide +kernel), List.mem_of_getElem? (i := 891) (by decide +kernel), List.mem_of_getElem? (i := 892) (by decide +kernel)⟩
theorem lw_p18 : lw_okq (⟨"PetitionBoard$State", "citedSet", "(I)I"⟩, 14) := ⟨⟨by decide +kernel, by decide +kernel⟩, List.mem_of_getElem? (i := 36) (by decide +kernel), List.mem_of_getElem? (i := 948) (by decide +kernel), List.mem_of_getElem? (i := 949) (by decide +kernel)⟩
theorem lw_p19 : lw_okq (⟨"PetitionBoard", "rankByInfluence", "(I)I"⟩, 15) := ⟨⟨by decide +kernel, by decide +kernel⟩, List.mem_of_getElem? (i := 28) (by decide +kernel), List.mem_of_getElem? (i := 980) (by decide +kernel), List.mem_of_getElem? (i := 981) (by decide +kernel)⟩
theorem lw_p20 : lw_okq (⟨"PetitionBoard$TextReader", "readCommand", "(LPetitionBoard$Line;LPetitionBoard$Command;)Z"⟩, 3) := ⟨⟨by decide +kernel, by decide +kernel⟩, List.mem_of_getElem? (i := 227) (by decide +kernel), List.mem_of_getElem? (i := 1055) (by decide +kernel), List.mem_of_getElem? (i := 1056) (by decide +kernel)⟩
theorem lw_p21 : lw_okq (⟨"PetitionBoard$TextReader", "readPart", "(LPetitionBoard$Line;LPetitionBoard$Command;C)Z"⟩, 3) := ⟨⟨by decide +kernel, by decide +kernel⟩, List.mem_of_getElem? (i := 227) (by decide +kernel), List.mem_of_getElem? (i := 1133) (by decide +kernel), List.mem_of_getElem? (i := 1134) (by decide +kernel)⟩
theorem lw_p22 : lw_okq (⟨"PetitionBoard$TextReader", "readValue", "(LPetitionBoard$Line;LPetitionBoard$Command;Z)Z"⟩, 3) := ⟨⟨by decide +kernel, by decide +kernel⟩, List.mem_of_getElem? (i := 227) (by decide +kernel), List.mem_of_getElem? (i := 1137) (by decide +kernel), List.mem_of_getElem? (i := 1138) (by decide +kernel)⟩
theorem lw_p23 : lw_okq (⟨"PetitionBoard$TextReader", "readSign", "(LPetitionBoard$Line;C)Z"⟩, 3) := ⟨⟨by decide +kernel, by decide +kernel⟩, List.mem_of_getElem? (i := 227) (by decide +kernel), List.mem_of_getElem? (i := 1148) (by decide +kernel), List.mem_of_getElem? (i := 1149) (by decide +kernel)⟩
theorem lw_p24 : lw_okq (⟨"PetitionBoard", "runCommands", "()Z"⟩, 15) := ⟨⟨by decide +kernel, by decide +kernel⟩, List.mem_of_getElem? (i := 28) (by decide +kernel), List.mem_of_getElem? (i := 1157) (by decide +kernel), List.mem_of_getElem? (i := 1158) (by decide +kernel)⟩
theorem lw_p25 : lw_okq (⟨"PetitionBoard", "attempt", "(LPetitionBoard$Command;)I"⟩, 15) := ⟨⟨by decide +kernel, by decide +kernel⟩, List.mem_of_getElem? (i := 28) (by decide +kernel), List.mem_of_getElem? (i := 1161) (by decide +kernel), List.mem_of_getElem? (i := 1162) (by decide +kernel)⟩
theorem lw_p26 : lw_okq (⟨"PetitionBoard", "requireDenial", "()V"⟩, 15) := ⟨⟨by decide +kernel, by decide +kernel⟩, List.mem_of_getElem? (i := 28) (by decide +kernel), List.mem_of_getElem? (i := 1220) (by decide +kernel), List.mem_of_getElem? (i := 1221) (by decide +kernel)⟩
theorem lw_p27 : lw_okq (⟨"PetitionBoard", "requireCause", "()V"⟩, 15) := ⟨⟨by decide +kernel, by decide +kernel⟩, List.mem_of_getElem? (i := 28) (by decide +kernel), List.mem_of_getElem? (i := 1239) (by decide +kernel), List.mem_of_getElem? (i := 1240) (by decide +kernel)⟩
theorem lw_p28 : lw_okq (⟨"PetitionBoardModel", "fails", "(I)Z"⟩, 22) := ⟨⟨by decide +kernel, by decide +kernel⟩, List.mem_of_getElem? (i := 1275) (by decide +kernel), List.mem_of_getElem? (i := 1362) (by decide +kernel), List.mem_of_getElem? (i := 1363) (by decide +kernel)⟩
theorem lw_p29 : lw_okq (⟨"PetitionBoardModel", "within", "(I)I"⟩, 22) := ⟨⟨by decide +kernel, by decide +kernel⟩, List.mem_of_getElem? (i := 1275) (by decide +kernel), List.mem_of_getElem? (i := 1366) (by decide +kernel), List.mem_of_getElem? (i := 1367) (by decide +kernel)⟩
theorem lw_p30 : lw_okq (⟨"PetitionBoardModel", "cell", "(I)I"⟩, 22) := ⟨⟨by decide +kernel, by decide +kernel⟩, List.mem_of_getElem? (i := 1275) (by decide +kernel), List.mem_of_getElem? (i := 1370) (by decide +kernel), List.mem_of_getElem? (i := 1371) (by decide +kernel)⟩
theorem lw_p31 : lw_okq (⟨"PetitionBoardModel", "denies", "(III)I"⟩, 22) := ⟨⟨by decide +kernel, by decide +kernel⟩, List.mem_of_getElem? (i := 1275) (by decide +kernel), List.mem_of_getElem? (i := 1374) (by decide +kernel), List.mem_of_getElem? (i := 1375) (by decide +kernel)⟩
def lw_privs_2 : List (MethodName × Nat) := [(⟨"PetitionBoard$State", "moveStone", "(II)V"⟩, 14), (⟨"PetitionBoard", "requireRuling", "(I)LPetitionBoard$Ruling;"⟩, 15), (⟨"PetitionBoard$State", "citedSet", "(I)I"⟩, 14), (⟨"PetitionBoard", "rankByInfluence", "(I)I"⟩, 15), (⟨"PetitionBoard$TextReader", "readCommand", "(LPetitionBoard$Line;LPetitionBoard$Command;)Z"⟩, 3), (⟨"PetitionBoard$TextReader", "readPart", "(LPetitionBoard$Line;LPetitionBoard$Command;C)Z"⟩, 3), (⟨"PetitionBoard$TextReader", "readValue", "(LPetitionBoard$Line;LPetitionBoard$Command;Z)Z"⟩, 3), (⟨"PetitionBoard$TextReader", "readSign", "(LPetitionBoard$Line;C)Z"⟩, 3), (⟨"PetitionBoard", "runCommands", "()Z"⟩, 15), (⟨"PetitionBoard", "attempt", "(LPetitionBoard$Command;)I"⟩, 15), (⟨"PetitionBoard", "requireDenial", "()V"⟩, 15), (⟨"PetitionBoard", "requireCause", "()V"⟩, 15), (⟨"PetitionBoardModel", "fails", "(I)Z"⟩, 22), (⟨"PetitionBoardModel", "within", "(I)I"⟩, 22), (⟨"PetitionBoardModel", "cell", "(I)I"⟩, 22), (⟨"PetitionBoardModel", "denies", "(III)I"⟩, 22)]
theorem lw_r2 : ∀ q ∈ lw_privs_2, lw_okq q := List.forall_mem_cons.mpr ⟨lw_p16, List.forall_mem_cons.mpr ⟨lw_p17, List.forall_mem_cons.mpr ⟨lw_p18, List.forall_mem_cons.mpr ⟨lw_p19, List.forall_mem_cons.mpr ⟨lw_p20, List.forall_mem_cons.mpr ⟨lw_p21, List.forall_mem_cons.mpr ⟨lw_p22, List.forall_mem_cons.mpr ⟨lw_p23, List.forall_mem_cons.mpr ⟨lw_p24, List.forall_mem_cons.mpr ⟨lw_p25, List.forall_mem_cons.mpr ⟨lw_p26, List.forall_mem_cons.mpr ⟨lw_p27, List.forall_mem_cons.mpr ⟨lw_p28, List.forall_mem_cons.mpr ⟨lw_p29, List.forall_mem_cons.mpr ⟨lw_p30, List.forall_mem_cons.mpr ⟨lw_p31, fun _ h => absurd h List.not_mem_nil⟩⟩⟩⟩⟩⟩⟩⟩⟩⟩⟩⟩⟩⟩⟩⟩
theorem lw_p32 : lw_okq (⟨"PetitionBoardModel", "keeps", "([I)V"⟩, 22) := ⟨⟨by decide +kernel, by decide +kernel⟩, List.mem_of_getElem? (i := 1275) (by decide +kernel), List.mem_of_getElem? (i := 1378) (by decide +kernel), List.mem_of_getElem? (i := 1379) (by decide +kernel)⟩
theorem lw_p33 : lw_okq (⟨"PetitionBoardModel", "isStone", "(I)Z"⟩, 22) := ⟨⟨by decide +kernel, by decide +kernel⟩, List.mem_of_getElem? (i := 1275) (by decide +kernel), List.mem_of_getElem? (i := 1397) (by decide +kernel), List.mem_of_getElem? (i := 1398) (by decide +kernel)⟩
theorem lw_p34 : lw_okq (⟨"PetitionBoardModel", "heavy", "(I)I"⟩, 22) := ⟨⟨by decide +kernel, by decide +kernel⟩, List.mem_of_getElem? (i := 1275) (by decide +kernel), List.mem_of_getElem? (i := 1405) (by decide +kernel), List.mem_of_getElem? (i := 1406) (by decide +kernel)⟩
theorem lw_p35 : lw_okq (⟨"PetitionBoardModel", "isOfficer", "(I)Z"⟩, 22) := ⟨⟨by decide +kernel, by decide +kernel⟩, List.mem_of_getElem? (i := 1275) (by decide +kernel), List.mem_of_getElem? (i := 1421) (by decide +kernel), List.mem_of_getElem? (i := 1422) (by decide +kernel)⟩
theorem lw_p36 : lw_okq (⟨"PetitionBoardModel", "rank", "(I)I"⟩, 22) := ⟨⟨by decide +kernel, by decide +kernel⟩, List.mem_of_getElem? (i := 1275) (by decide +kernel), List.mem_of_getElem? (i := 1425) (by decide +kernel), List.mem_of_getElem? (i := 1426) (by decide +kernel)⟩
theorem lw_p37 : lw_okq (⟨"PetitionBoardModel", "of", "(II)I"⟩, 22) := ⟨⟨by decide +kernel, by decide +kernel⟩, List.mem_of_getElem? (i := 1275) (by decide +kernel), List.mem_of_getElem? (i := 1433) (by decide +kernel), List.mem_of_getElem? (i := 1434) (by decide +kernel)⟩
theorem lw_p38 : lw_okq (⟨"PetitionBoardModel", "about", "(I)I"⟩, 22) := ⟨⟨by decide +kernel, by decide +kernel⟩, List.mem_of_getElem? (i := 1275) (by decide +kernel), List.mem_of_getElem? (i := 1441) (by decide +kernel), List.mem_of_getElem? (i := 1442) (by decide +kernel)⟩
theorem lw_p39 : lw_okq (⟨"PetitionBoardModel", "lays", "(III)V"⟩, 22) := ⟨⟨by decide +kernel, by decide +kernel⟩, List.mem_of_getElem? (i := 1275) (by decide +kernel), List.mem_of_getElem? (i := 1445) (by decide +kernel), List.mem_of_getElem? (i := 1446) (by decide +kernel)⟩
theorem lw_p40 : lw_okq (⟨"PetitionBoardModel", "placeOf", "(I)I"⟩, 22) := ⟨⟨by decide +kernel, by decide +kernel⟩, List.mem_of_getElem? (i := 1275) (by decide +kernel), List.mem_of_getElem? (i := 1453) (by decide +kernel), List.mem_of_getElem? (i := 1454) (by decide +kernel)⟩
theorem lw_p41 : lw_okq (⟨"PetitionBoardModel", "votes", "(I)I"⟩, 22) := ⟨⟨by decide +kernel, by decide +kernel⟩, List.mem_of_getElem? (i := 1275) (by decide +kernel), List.mem_of_getElem? (i := 1457) (by decide +kernel), List.mem_of_getElem? (i := 1458) (by decide +kernel)⟩
theorem lw_p42 : lw_okq (⟨"PetitionBoardModel", "isRuling", "(I)Z"⟩, 22) := ⟨⟨by decide +kernel, by decide +kernel⟩, List.mem_of_getElem? (i := 1275) (by decide +kernel), List.mem_of_getElem? (i := 1468) (by decide +kernel), List.mem_of_getElem? (i := 1469) (by decide +kernel)⟩
theorem lw_p43 : lw_okq (⟨"PetitionBoardModel", "drops", "(I)V"⟩, 22) := ⟨⟨by decide +kernel, by decide +kernel⟩, List.mem_of_getElem? (i := 1275) (by decide +kernel), List.mem_of_getElem? (i := 1476) (by decide +kernel), List.mem_of_getElem? (i := 1477) (by decide +kernel)⟩
theorem lw_p44 : lw_okq (⟨"PetitionBoardModel", "isNone", "(I)Z"⟩, 22) := ⟨⟨by decide +kernel, by decide +kernel⟩, List.mem_of_getElem? (i := 1275) (by decide +kernel), List.mem_of_getElem? (i := 1484) (by decide +kernel), List.mem_of_getElem? (i := 1485) (by decide +kernel)⟩
theorem lw_p45 : lw_okq (⟨"PetitionBoardModel", "queued", "(I)I"⟩, 22) := ⟨⟨by decide +kernel, by decide +kernel⟩, List.mem_of_getElem? (i := 1275) (by decide +kernel), List.mem_of_getElem? (i := 1496) (by decide +kernel), List.mem_of_getElem? (i := 1497) (by decide +kernel)⟩
theorem lw_p46 : lw_okq (⟨"PetitionBoardModel", "ahead", "(I)I"⟩, 22) := ⟨⟨by decide +kernel, by decide +kernel⟩, List.mem_of_getElem? (i := 1275) (by decide +kernel), List.mem_of_getElem? (i := 1500) (by decide +kernel), List.mem_of_getElem? (i := 1501) (by decide +kernel)⟩
theorem lw_p47 : lw_okq (⟨"PetitionBoardModel", "isAhead", "(II)Z"⟩, 22) := ⟨⟨by decide +kernel, by decide +kernel⟩, List.mem_of_getElem? (i := 1275) (by decide +kernel), List.mem_of_getElem? (i := 1504) (by decide +kernel), List.mem_of_getElem? (i := 1505) (by decide +kernel)⟩
def lw_privs_3 : List (MethodName × Nat) := [(⟨"PetitionBoardModel", "keeps", "([I)V"⟩, 22), (⟨"PetitionBoardModel", "isStone", "(I)Z"⟩, 22), (⟨"PetitionBoardModel", "heavy", "(I)I"⟩, 22), (⟨"PetitionBoardModel", "isOfficer", "(I)Z"⟩, 22), (⟨"PetitionBoardModel", "rank", "(I)I"⟩, 22), (⟨"PetitionBoardModel", "of", "(II)I"⟩, 22), (⟨"PetitionBoardModel", "about", "(I)I"⟩, 22), (⟨"PetitionBoardModel", "lays", "(III)V"⟩, 22), (⟨"PetitionBoardModel", "placeOf", "(I)I"⟩, 22), (⟨"PetitionBoardModel", "votes", "(I)I"⟩, 22), (⟨"PetitionBoardModel", "isRuling", "(I)Z"⟩, 22), (⟨"PetitionBoardModel", "drops", "(I)V"⟩, 22), (⟨"PetitionBoardModel", "isNone", "(I)Z"⟩, 22), (⟨"PetitionBoardModel", "queued", "(I)I"⟩, 22), (⟨"PetitionBoardModel", "ahead", "(I)I"⟩, 22), (⟨"PetitionBoardModel", "isAhead", "(II)Z"⟩, 22)]
theorem lw_r3 : ∀ q ∈ lw_privs_3, lw_okq q := List.forall_mem_cons.mpr ⟨lw_p32, List.forall_mem_cons.mpr ⟨lw_p33, List.forall_mem_cons.mpr ⟨lw_p34, List.forall_mem_cons.mpr ⟨lw_p35, List.forall_mem_cons.mpr ⟨lw_p36, List.forall_mem_cons.mpr ⟨lw_p37, List.forall_mem_cons.mpr ⟨lw_p38, List.forall_mem_cons.mpr ⟨lw_p39, List.forall_mem_cons.mpr ⟨lw_p40, List.forall_mem_cons.mpr ⟨lw_p41, List.forall_mem_cons.mpr ⟨lw_p42, List.forall_mem_cons.mpr ⟨lw_p43, List.forall_mem_cons.mpr ⟨lw_p44, List.forall_mem_cons.mpr ⟨lw_p45, List.forall_mem_cons.mpr ⟨lw_p46, List.forall_mem_cons.mpr ⟨lw_p47, fun _ h => absurd h List.not_mem_nil⟩⟩⟩⟩⟩⟩⟩⟩⟩⟩⟩⟩⟩⟩⟩⟩
theorem lw_p48 : lw_okq (⟨"PetitionBoardModel", "wins", "(I)Z"⟩, 22) := ⟨⟨by decide +kernel, by decide +kernel⟩, List.mem_of_getElem? (i := 1275) (by decide +kernel), List.mem_of_getElem? (i := 1532) (by decide +kernel), List.mem_of_getElem? (i := 1533) (by decide +kernel)⟩
theorem lw_p49 : lw_okq (⟨"PetitionBoardModel", "by", "(II)I"⟩, 22) := ⟨⟨by decide +kernel, by decide +kernel⟩, List.mem_of_getElem? (i := 1275) (by decide +kernel), List.mem_of_getElem? (i := 1536) (by decide +kernel), List.mem_of_getElem? (i := 1537) (by decide +kernel)⟩
theorem lw_p50 : lw_okq (⟨"PetitionBoardModel", "isUnruled", "(I)Z"⟩, 22) := ⟨⟨by decide +kernel, by decide +kernel⟩, List.mem_of_getElem? (i := 1275) (by decide +kernel), List.mem_of_getElem? (i := 1560) (by decide +kernel), List.mem_of_getElem? (i := 1561) (by decide +kernel)⟩
theorem lw_p51 : lw_okq (⟨"PetitionBoardModel", "names", "(II)Z"⟩, 22) := ⟨⟨by decide +kernel, by decide +kernel⟩, List.mem_of_getElem? (i := 1275) (by decide +kernel), List.mem_of_getElem? (i := 1580) (by decide +kernel), List.mem_of_getElem? (i := 1581) (by decide +kernel)⟩
theorem lw_p52 : lw_okq (⟨"PetitionBoardModel", "based", "(I)I"⟩, 22) := ⟨⟨by decide +kernel, by decide +kernel⟩, List.mem_of_getElem? (i := 1275) (by decide +kernel), List.mem_of_getElem? (i := 1592) (by decide +kernel), List.mem_of_getElem? (i := 1593) (by decide +kernel)⟩
theorem lw_p53 : lw_okq (⟨"PetitionBoardModel", "reaches", "(I)I"⟩, 22) := ⟨⟨by decide +kernel, by decide +kernel⟩, List.mem_of_getElem? (i := 1275) (by decide +kernel), List.mem_of_getElem? (i := 1600) (by decide +kernel), List.mem_of_getElem? (i := 1601) (by decide +kernel)⟩
theorem lw_p54 : lw_okq (⟨"PetitionBoardModel", "isText", "()Z"⟩, 22) := ⟨⟨by decide +kernel, by decide +kernel⟩, List.mem_of_getElem? (i := 1275) (by decide +kernel), List.mem_of_getElem? (i := 1644) (by decide +kernel), List.mem_of_getElem? (i := 1645) (by decide +kernel)⟩
theorem lw_p55 : lw_okq (⟨"PetitionBoardModel", "commandHere", "()Z"⟩, 22) := ⟨⟨by decide +kernel, by decide +kernel⟩, List.mem_of_getElem? (i := 1275) (by decide +kernel), List.mem_of_getElem? (i := 1648) (by decide +kernel), List.mem_of_getElem? (i := 1649) (by decide +kernel)⟩
theorem lw_p56 : lw_okq (⟨"PetitionBoardModel", "here", "()I"⟩, 22) := ⟨⟨by decide +kernel, by decide +kernel⟩, List.mem_of_getElem? (i := 1275) (by decide +kernel), List.mem_of_getElem? (i := 1652) (by decide +kernel), List.mem_of_getElem? (i := 1653) (by decide +kernel)⟩
theorem lw_p57 : lw_okq (⟨"PetitionBoardModel", "isWord", "(Ljava/lang/String;)Z"⟩, 22) := ⟨⟨by decide +kernel, by decide +kernel⟩, List.mem_of_getElem? (i := 1275) (by decide +kernel), List.mem_of_getElem? (i := 1657) (by decide +kernel), List.mem_of_getElem? (i := 1658) (by decide +kernel)⟩
theorem lw_p58 : lw_okq (⟨"PetitionBoardModel", "skips", "(I)Z"⟩, 22) := ⟨⟨by decide +kernel, by decide +kernel⟩, List.mem_of_getElem? (i := 1275) (by decide +kernel), List.mem_of_getElem? (i := 1663) (by decide +kernel), List.mem_of_getElem? (i := 1664) (by decide +kernel)⟩
theorem lw_p59 : lw_okq (⟨"PetitionBoardModel", "figures", "(II)Z"⟩, 22) := ⟨⟨by decide +kernel, by decide +kernel⟩, List.mem_of_getElem? (i := 1275) (by decide +kernel), List.mem_of_getElem? (i := 1667) (by decide +kernel), List.mem_of_getElem? (i := 1668) (by decide +kernel)⟩
theorem lw_p60 : lw_okq (⟨"PetitionBoardModel", "carries", "(I)I"⟩, 22) := ⟨⟨by decide +kernel, by decide +kernel⟩, List.mem_of_getElem? (i := 1275) (by decide +kernel), List.mem_of_getElem? (i := 1680) (by decide +kernel), List.mem_of_getElem? (i := 1681) (by decide +kernel)⟩
theorem lw_p61 : lw_okq (⟨"PetitionBoardModel", "deniesText", "(I)I"⟩, 22) := ⟨⟨by decide +kernel, by decide +kernel⟩, List.mem_of_getElem? (i := 1275) (by decide +kernel), List.mem_of_getElem? (i := 1693) (by decide +kernel), List.mem_of_getElem? (i := 1694) (by decide +kernel)⟩
theorem lw_p62 : lw_okq (⟨"PetitionBoardModel", "writesBehind", "(II)V"⟩, 22) := ⟨⟨by decide +kernel, by decide +kernel⟩, List.mem_of_getElem? (i := 1275) (by decide +kernel), List.mem_of_getElem? (i := 1705) (by decide +kernel), List.mem_of_getElem? (i := 1706) (by decide +kernel)⟩
theorem lw_p63 : lw_okq (⟨"PetitionBoardModel", "writes", "(I)V"⟩, 22) := ⟨⟨by decide +kernel, by decide +kernel⟩, List.mem_of_getElem? (i := 1275) (by decide +kernel), List.mem_of_getElem? (i := 1709) (by decide +kernel), List.mem_of_getElem? (i := 1710) (by decide +kernel)⟩
def lw_privs_4 : List (MethodName × Nat) := [(⟨"PetitionBoardModel", "wins", "(I)Z"⟩, 22), (⟨"PetitionBoardModel", "by", "(II)I"⟩, 22), (⟨"PetitionBoardModel", "isUnruled", "(I)Z"⟩, 22), (⟨"PetitionBoardModel", "names", "(II)Z"⟩, 22), (⟨"PetitionBoardModel", "based", "(I)I"⟩, 22), (⟨"PetitionBoardModel", "reaches", "(I)I"⟩, 22), (⟨"PetitionBoardModel", "isText", "()Z"⟩, 22), (⟨"PetitionBoardModel", "commandHere", "()Z"⟩, 22), (⟨"PetitionBoardModel", "here", "()I"⟩, 22), (⟨"PetitionBoardModel", "isWord", "(Ljava/lang/String;)Z"⟩, 22), (⟨"PetitionBoardModel", "skips", "(I)Z"⟩, 22), (⟨"PetitionBoardModel", "figures", "(II)Z"⟩, 22), (⟨"PetitionBoardModel", "carries", "(I)I"⟩, 22), (⟨"PetitionBoardModel", "deniesText", "(I)I"⟩, 22), (⟨"PetitionBoardModel", "writesBehind", "(II)V"⟩, 22), (⟨"PetitionBoardModel", "writes", "(I)V"⟩, 22)]
theorem lw_r4 : ∀ q ∈ lw_privs_4, lw_okq q := List.forall_mem_cons.mpr ⟨lw_p48, List.forall_mem_cons.mpr ⟨lw_p49, List.forall_mem_cons.mpr ⟨lw_p50, List.forall_mem_cons.mpr ⟨lw_p51, List.forall_mem_cons.mpr ⟨lw_p52, List.forall_mem_cons.mpr ⟨lw_p53, List.forall_mem_cons.mpr ⟨lw_p54, List.forall_mem_cons.mpr ⟨lw_p55, List.forall_mem_cons.mpr ⟨lw_p56, List.forall_mem_cons.mpr ⟨lw_p57, List.forall_mem_cons.mpr ⟨lw_p58, List.forall_mem_cons.mpr ⟨lw_p59, List.forall_mem_cons.mpr ⟨lw_p60, List.forall_mem_cons.mpr ⟨lw_p61, List.forall_mem_cons.mpr ⟨lw_p62, List.forall_mem_cons.mpr ⟨lw_p63, fun _ h => absurd h List.not_mem_nil⟩⟩⟩⟩⟩⟩⟩⟩⟩⟩⟩⟩⟩⟩⟩⟩
theorem lw_p64 : lw_okq (⟨"PetitionBoardModel", "writesNumber", "(I)V"⟩, 22) := ⟨⟨by decide +kernel, by decide +kernel⟩, List.mem_of_getElem? (i := 1275) (by decide +kernel), List.mem_of_getElem? (i := 1713) (by decide +kernel), List.mem_of_getElem? (i := 1714) (by decide +kernel)⟩
def lw_privs_5 : List (MethodName × Nat) := [(⟨"PetitionBoardModel", "writesNumber", "(I)V"⟩, 22)]
theorem lw_r5 : ∀ q ∈ lw_privs_5, lw_okq q := List.forall_mem_cons.mpr ⟨lw_p64, fun _ h => absurd h List.not_mem_nil⟩
def lw_privs : List (MethodName × Nat) := lw_privs_1 ++ (lw_privs_2 ++ (lw_privs_3 ++ (lw_privs_4 ++ (lw_privs_5))))
def lw_tbl : List Cond := k2_sels lw_privs ++ tables_1
theorem lw_privs_ok : ∀ q ∈ lw_privs, lw_okq q := by
  show ∀ q ∈ lw_privs_1 ++ (lw_privs_2 ++ (lw_privs_3 ++ (lw_privs_4 ++ (lw_privs_5)))), lw_okq q
  exact List.forall_mem_append.mpr ⟨lw_r1, List.forall_mem_append.mpr ⟨lw_r2, List.forall_mem_append.mpr ⟨lw_r3, List.forall_mem_append.mpr ⟨lw_r4, lw_r5⟩⟩⟩⟩
/-- the streams that the claim lets the run draw from -/
abbrev lw_cs : List Choice := [Jvm.Choice.named "NaN.bits"]
theorem lw_bits : nanBits ∈ lw_cs := by first | decide | exact List.mem_cons_self | simp [lw_cs, nanBits]
/-! ===== BEGIN words of one list among another's, by their places ===== -/
theorem goodIn_r {big : List Cond} (ws : List Cond) (ps : List Nat) (hp : ws = ps.filterMap (fun i => big[i]?)) (h : ws.all goodWord = true) : GoodIn big ws := by
  intro w hw
  have h1 := List.all_eq_true.mp h w hw
  rw [hp] at hw
  obtain ⟨i, -, hi⟩ := List.mem_filterMap.mp hw
  have hm : w ∈ big := by first | exact List.mem_of_getElem? hi | exact List.getElem?_mem hi
  exact ⟨hm, good_of_word h1⟩
theorem goodIn_app {big a b : List Cond} (ha : GoodIn big a) (hb : GoodIn big b) : GoodIn big (a ++ b) := fun w h => (List.mem_append.mp h).elim (ha w) (hb w)
theorem goodIn_ca {big a b : List Cond} {c : Cond} (ha : GoodIn big (c :: a)) (hb : GoodIn big b) : GoodIn big (c :: (a ++ b)) := fun w h => (List.mem_cons.mp h).elim (fun e => ha w (List.mem_cons.mpr (Or.inl e))) (fun h => (List.mem_append.mp h).elim (fun h => ha w (List.mem_cons.mpr (Or.inr h))) (hb w))
theorem goodIn_sub {big ws : List Cond} (hm : ∀ w ∈ ws, w ∈ big) (h : ws.all goodWord = true) : GoodIn big ws := fun w hw => ⟨hm w hw, good_of_word (List.all_eq_true.mp h w hw)⟩
/-! ===== END ===== -/

/-! ===== BEGIN exceptions that leave a method, and their catching by the caller (launches without stack traces) ===== -/
section VXA
/-! The laws vx_back, vx_callV, vx_callS, vx_callSW, vx_throw0, vx_throwS follow proofs of the library, with one case more: JvmDerived/Free/Laws.lean (Back.of_free), Shelf42/LK1.lean (callV, callS), Shelf/KitTraced.lean (throwNew0V, throwNewS). -/
/-- where a method has thrown q: the class by its name, the cell, what was written, the world -/
def vx_T (XC : String → State → State → Prop) (st : State) (q : Addr) (t : State) (mc ms : Nat) (free : Addr → Prop) : Prop :=
  ∃ (E : String) (ce : Cell) (L : List Loc), XC E st t ∧ t.heap[q]? = some ce ∧ ce.vm = .none ∧ st.vm.findClass E = some ce.cls ∧ st.WarmedH t.vm ∧ st.sameButNew ({ t with vm := st.vm } : State) L mc ms ∧ ∀ z ∈ L, free z.base
def vx_Q (Qc : Array Value → State → Outcome → State → Prop) (XC : String → State → State → Prop) (mc ms : Nat) (free : Addr → Prop) : Array Value → State → Outcome → State → Prop := fun a st o t =>
  (Qc a st o t ∧ ∃ L, FrameEnd st o t L mc ms ∧ ∀ q ∈ L, free q.base) ∨ ∃ q, o = .threw q ∧ vx_T XC st q t mc ms free
/-- a callee that returns or throws -/
def vx_Met (l : Launch) (y : MethodName) (ws : List Cond) (rm : Room) (Pc : Array Value → State → Prop) (Qc : Array Value → State → Outcome → State → Prop) (XC : String → State → State → Prop) (mc ms : Nat) (free : Addr → Prop) : Prop :=
  MetFree l y (headSpec ws rm) Pc (fun _ _ _ _ _ => True) (vx_Q Qc XC mc ms free)
def vx_Post (XC : String → State → State → Prop) (mc ms : Nat) (free : Addr → Prop) : Pt → Array Value → Addr → Pt → Prop := fun A a q B =>
  ∃ (g : JFrame) (mk : MethodId) (t : State) (L : List Loc) (E : String) (ce : Cell), B.U.heap = t.heap ∧ B.U.vm = t.vm ∧ XC E (A.U.calling g mk a) t ∧ t.heap[q]? = some ce ∧ ce.vm = .none ∧ A.U.vm.findClass E = some ce.cls ∧ B.locs = A.locs ++ L ∧ (∀ z ∈ L, free z.base) ∧ B.cells = A.cells + mc ∧ B.slots = A.slots + ms
def vx_Back (l : Launch) (R : Room) (p : Program) (e : Env) (below : List Frame) (s : State) (sargs : Array Value) (y : MethodName) (len W9 : Nat)
    (Pre : Pt → Array Value → Prop) (Post : Pt → Array Value → Option Value → Pt → Prop) (PostX : Pt → Array Value → Addr → Pt → Prop) : Prop :=
  ∀ (m : MethodId) (meth : Method) (c : Code) (A : Pt) (g : JFrame) (ig : Instr) (mk : MethodId) (a : Array Value),
    Stand p l e R s m sargs below meth c A.U A.locs A.cells A.slots → g.method = m → g.locals.size = c.maxLocals → decode c.code g.pc = .ok (ig, len) →
    2 * g.monitorRoom + (g.stack.map fun v => v.category).sum ≤ W9 → A.U.methodNamed? y = some mk → Pre A a →
    (∃ (v : Option Value) (B : Pt), Stand p l e R s m sargs below meth c B.U B.locs B.cells B.slots ∧ Post A a v B ∧
      Steps p.tables e below (doInvoke e (A.U.setTop g) [] mk a).1 (B.U.setTop { g with pc := g.pc + len, stack := v.toList ++ g.stack })) ∨
    (∃ (q : Addr) (B : Pt), Stand p l e R s m sargs below meth c B.U B.locs B.cells B.slots ∧ PostX A a q B ∧
      Steps p.tables e below (doInvoke e (A.U.setTop g) [] mk a).1 ((B.U.setTop g).pushFrame (.throwing q)))
section Payer
variable {l : Launch} {R : Room} {p : Program} {e : Env} {below : List Frame} {s : State} {sargs : Array Value} {y : MethodName} {len W9 : Nat}
theorem vx_back {ws : List Cond} {rm : Room} {Pc : Array Value → State → Prop} {Qc : Array Value → State → Outcome → State → Prop} {XC : String → State → State → Prop} {mc ms : Nat} {free : Addr → Prop} {bytes : ByteArray} {maxL : Nat} {ret : Option FieldType}
    (hM : vx_Met l y ws rm Pc Qc XC mc ms free) (hblind : FrameBlind Pc) (hrc : rm.cells = mc) (hrs : rm.slots = ms)
    (hframes : rm.frames + 1 ≤ R.frames) (hlocals : W9 + (maxL + 11) + rm.locals ≤ R.locals)
    (hws : ∀ w ∈ ws, ∀ a' U, s.WarmedH U.vm → w.before a' U = true) (hcode : Cond.code y bytes maxL ret ∈ ws) (hinit : ∀ a' U, s.WarmedH U.vm → (Cond.initialized y.cls).before a' U = true) :
    vx_Back l R p e below s sargs y len W9 (PreOf R mc ms Pc) (PostOf Qc mc ms free) (vx_Post XC mc ms free) := by
  intro m meth c A g ig mk a X hg hsize hdg hW hn hp
  have h1 : (headSpec ws rm).pre.before a A.U = true := atoms_intro fun w hw => hws w hw _ _ X.warmed
  have h2 : (Cond.code y bytes maxL ret).before a A.U = true := hws _ hcode _ _ X.warmed
  have h3 : (Cond.initialized y.cls).before a A.U = true := hinit _ _ X.warmed
  have h4 : A.cells + (headSpec ws rm).room.cells ≤ R.cells := by rw [show (headSpec ws rm).room.cells = mc from hrc]; exact hp.1
  have h5 : A.slots + (headSpec ws rm).room.slots ≤ R.slots := by rw [show (headSpec ws rm).room.slots = ms from hrs]; exact hp.2.1
  have hPc : Pc a (A.U.calling g mk a) := hblind _ _ _ _ hp.2.2
  obtain ⟨U, Ls, c0, s0⟩ := A
  dsimp only [Pt.U, Pt.locs, Pt.cells, Pt.slots] at h1 h2 h3 h4 h5 X hn hPc ⊢
  obtain ⟨methY, cY, hmY, hcY, -, hlY, -, -, -, -⟩ := Cond.code_spec hn h2
  obtain ⟨kY, hkY, -⟩ := className_of_methodNamed hn
  have hinitY : kY.init = .initialized := Cond.initialized_spec (findClass_of_methodNamed hn) hkY h3
  have h : At U g.method c below := by rw [hg]; exact X.here
  have hlocals9 : W9 + (maxL + 11) + (headSpec ws rm).room.locals ≤ R.locals := hlocals
  have happ : (headSpec ws rm).appliesLoose y e.platform (U.calling g mk a) = true :=
    Spec.appliesLoose_calling (g := g) h hdg hn hkY hinitY
      (X.room_calling (g := g) (R' := (headSpec ws rm).room) hsize hmY hcY hframes (by rw [hlY]; omega) h4 h5) h1
  obtain ⟨mid, hmid⟩ := h.above
  have hfr : (U.setTop g).frames = (.java g :: mid) ++ below := by rw [State.frames_setTop' g h.top, hmid]; rfl
  obtain ⟨o, s₂, hsteps, -, hend, hq⟩ := Steps.callFree hM p X.admits X.cas X.clock (acts := []) hfr happ hPc trivial
  have hq' : vx_Q Qc XC mc ms free a (U.calling g mk a) o s₂ := hq
  rw [State.frames_setTop' g h.top] at hend
  obtain ⟨g₀, hg0⟩ := Option.isSome_iff_exists.mp h.top
  obtain ⟨r, hr⟩ := State.topJava?_eq_some.mp hg0
  have hr' : (({ U with heap := s₂.heap, slotsUsed := s₂.slotsUsed } : State).setVm s₂.vm).frames = .java g₀ :: r := hr
  rcases hq' with ⟨hqc, L, hfe, hL⟩ | ⟨q, rfl, E, ce, L, hx, hce, hcv, hcl, hW₂, hsm, hL⟩
  · obtain ⟨⟨v, rfl⟩, hW₂, e2, q2, q3, q4, q5, q6⟩ := id hfe
    have e3 : s₂ = ({ (U.calling g mk a).setFrames s₂.frames with heap := s₂.heap, slotsUsed := s₂.slotsUsed } : State).setVm s₂.vm := by
      have : s₂ = ({ s₂ with vm := (U.calling g mk a).vm } : State).setVm s₂.vm := rfl
      rw [e2] at this
      exact this
    obtain ⟨c₂, i₂, len₂, hc₂, hd₂, hf₂⟩ := hend
    have hW' : U.WarmedH s₂.vm := hW₂
    have hcc : c₂ = c := by
      have h1 : s₂.code? g.method = U.code? g.method := by
        rw [State.code?_eq, State.code?_eq, hW'.alike.method?]
      exact Option.some.inj (hc₂.symm.trans (h1.trans h.code))
    subst hcc
    have hlen : len₂ = len := by rw [hdg] at hd₂; cases hd₂; rfl
    subst hlen
    have hs₂ : s₂ = (({ U with heap := s₂.heap, slotsUsed := s₂.slotsUsed } : State).setVm s₂.vm).setTop { g with pc := g.pc + len₂, stack := v.toList ++ g.stack } := by
      refine e3.trans ?_
      rw [hf₂, State.calling_eq h.top, State.setFrames_setFrames, State.setTop_of_frames _ hr', hr]
      rfl
    have hsame : U.sameButNew ({ U with heap := s₂.heap, slotsUsed := s₂.slotsUsed } : State) L mc ms := by
      refine ⟨?_, q2, q3, q4, q5, q6⟩
      obtain ⟨t, ht, -⟩ := State.frames_cons hr
      show ({ U with heap := s₂.heap, slotsUsed := s₂.slotsUsed } : State) = { U.setFrames U.frames with heap := s₂.heap, slotsUsed := s₂.slotsUsed }
      rw [State.setFrames_self ht]
    subst hg
    refine Or.inl ⟨v, ⟨(({ U with heap := s₂.heap, slotsUsed := s₂.slotsUsed } : State).setVm s₂.vm), Ls ++ L, c0 + mc, s0 + ms⟩,
      ⟨X.admits, X.cas, X.clock, X.frames, X.room, X.hears, X.method, X.code, (X.here.setHeapUsed s₂.heap s₂.slotsUsed).setVm hW'.alike, X.tail, State.WarmedH.trans X.warmed hW', X.limits, X.bytes, X.same.trans (hsame.setVm s.vm)⟩,
      ⟨g, mk, s₂, L, rfl, rfl, hqc, rfl, hL, rfl, rfl⟩, ?_⟩
    show Steps p.tables e below _ ((({ U with heap := s₂.heap, slotsUsed := s₂.slotsUsed } : State).setVm s₂.vm).setTop { g with pc := g.pc + len₂, stack := v.toList ++ g.stack })
    rw [← hs₂]
    exact hsteps
  · obtain ⟨e2, q2, q3, q4, q5, q6⟩ := id hsm
    have e3 : s₂ = ({ (U.calling g mk a).setFrames s₂.frames with heap := s₂.heap, slotsUsed := s₂.slotsUsed } : State).setVm s₂.vm := by
      have : s₂ = ({ s₂ with vm := (U.calling g mk a).vm } : State).setVm s₂.vm := rfl
      rw [e2] at this
      exact this
    have hf₂ : s₂.frames = .throwing q :: .java g :: U.frames.tail := hend
    have hW' : U.WarmedH s₂.vm := hW₂
    have hs₂ : s₂ = ((({ U with heap := s₂.heap, slotsUsed := s₂.slotsUsed } : State).setVm s₂.vm).setTop g).pushFrame (.throwing q) := by
      refine e3.trans ?_
      rw [hf₂, State.calling_eq h.top, State.setFrames_setFrames, State.pushFrame, State.frames_setTop _ hr', State.setTop_of_frames _ hr', State.setFrames_setFrames, hr]
      rfl
    have hsame : U.sameButNew ({ U with heap := s₂.heap, slotsUsed := s₂.slotsUsed } : State) L mc ms := by
      refine ⟨?_, q2, q3, q4, q5, q6⟩
      obtain ⟨t, ht, -⟩ := State.frames_cons hr
      show ({ U with heap := s₂.heap, slotsUsed := s₂.slotsUsed } : State) = { U.setFrames U.frames with heap := s₂.heap, slotsUsed := s₂.slotsUsed }
      rw [State.setFrames_self ht]
    subst hg
    refine Or.inr ⟨q, ⟨(({ U with heap := s₂.heap, slotsUsed := s₂.slotsUsed } : State).setVm s₂.vm), Ls ++ L, c0 + mc, s0 + ms⟩,
      ⟨X.admits, X.cas, X.clock, X.frames, X.room, X.hears, X.method, X.code, (X.here.setHeapUsed s₂.heap s₂.slotsUsed).setVm hW'.alike, X.tail, State.WarmedH.trans X.warmed hW', X.limits, X.bytes, X.same.trans (hsame.setVm s.vm)⟩,
      ⟨g, mk, s₂, L, E, ce, rfl, rfl, hx, hce, hcv, hcl, rfl, hL, rfl, rfl⟩, ?_⟩
    show Steps p.tables e below _ (((({ U with heap := s₂.heap, slotsUsed := s₂.slotsUsed } : State).setVm s₂.vm).setTop g).pushFrame (.throwing q))
    rw [← hs₂]
    exact hsteps
end Payer
section Calls
variable {p : Program} {l : Launch} {e : Env} {R : Room} {s : State} {m : MethodId} {args : Array Value} {below : List Frame} {meth : Method} {c : Code} {T : State} {locs : List Loc} {cells slots : Nat}
theorem vx_callV (X : Stand p l e R s m args below meth c T locs cells slots) (hexec : p.tables.exec = Jvm.exec) {own C : String} {index : Nat} {y : MethodName} {bytes : ByteArray} {maxL : Nat} {ret : Option FieldType}
    (hown : s.vm.findClass own = some m.cls) (hlink : (Cond.methodLink own index y).before args s = true) (hinst : (Cond.instanceMethod y).before args s = true) (hsel : (Cond.selects C y y).before args s = true)
    (hcode : (Cond.code y bytes maxL ret).before args s = true) (hy : y.cls ≠ "java/lang/invoke/MethodHandle" ∧ y.cls ≠ "java/lang/invoke/VarHandle")
    {W9 : Nat} {Pre : Pt → Array Value → Prop} {Post : Pt → Array Value → Option Value → Pt → Prop} {PostX : Pt → Array Value → Addr → Pt → Prop} (hK : vx_Back l R p e below s args y 3 W9 Pre Post PostX)
    {b : Addr} {cellB : Cell} (hcell : T.heap[b]? = some cellB) (hobj : cellB.vm.isStatics = false) (hcls : s.vm.findClass C = some cellB.cls)
    {g : JFrame} (hg : g.method = m) (hsize : g.locals.size = c.maxLocals) {argsL rest : List Value} (hlen : ∀ sig, parseMethodDescriptor y.desc = some sig → argsL.length = sig.parameters.length)
    (hstack : g.stack = argsL.reverse ++ .ref b :: rest) (hW : 2 * g.monitorRoom + (rest.map fun v => v.category).sum ≤ W9) (hdg : decode c.code g.pc = .ok (.invokevirtual index, 3))
    (hpre : ∀ vm₁, s.WarmedH vm₁ → Pre ⟨T.setVm vm₁, locs, cells, slots⟩ (Value.ref b :: argsL).toArray) :
    (∃ (v : Option Value) (vm₁ : Vm) (B : Pt), s.WarmedH vm₁ ∧ Stand p l e R s m args below meth c B.U B.locs B.cells B.slots ∧ Post ⟨T.setVm vm₁, locs, cells, slots⟩ (Value.ref b :: argsL).toArray v B ∧
      ∀ target, Steps p.tables e below (B.U.setTop { g with pc := g.pc + 3, stack := v.toList ++ rest }) target → Steps p.tables e below (T.setTop g) target) ∨
    (∃ (q : Addr) (vm₁ : Vm) (B : Pt), s.WarmedH vm₁ ∧ Stand p l e R s m args below meth c B.U B.locs B.cells B.slots ∧ PostX ⟨T.setVm vm₁, locs, cells, slots⟩ (Value.ref b :: argsL).toArray q B ∧
      Steps p.tables e below (T.setTop g) ((B.U.setTop { g with stack := rest }).pushFrame (.throwing q))) := by
  obtain ⟨mk, methM, hnamed, hmethM, hstM, habM⟩ := Cond.instanceMethod_spec hinst
  obtain ⟨methM', cM, hmethM', -, -, -, -, -, -, hsigM⟩ := Cond.code_spec hnamed hcode
  cases hmethM.symm.trans hmethM'
  obtain ⟨c2, r2, m2, q1, q2, q3, q4, kP, hkP, hkPi⟩ := Cond.selects_spec hsel
  cases hcls.symm.trans q1
  cases (State.methodFound?_of_named hnamed hy).symm.trans q2
  cases hnamed.symm.trans q3
  have hselP : selectMethod e.platform s.vm cellB.cls mk = .method mk := by rw [Launch.admits_selectMethod X.admits]; exact q4
  obtain ⟨vm₁, X₁, hstep₁⟩ := X.invokevirtual hexec hown hlink hnamed hmethM hstM hkP hkPi hy (a := b) (cell := cellB) hcell
    (fun z h => by rw [h] at hobj; cases hobj) hselP hmethM habM hkP hkPi (g := g) hg (argsL := argsL) (rest := rest) (hlen _ hsigM) hstack hdg
  rcases hK m meth c ⟨T.setVm vm₁, locs, cells, slots⟩ { g with stack := rest } (.invokevirtual index) mk (Value.ref b :: argsL).toArray X₁ hg hsize hdg hW (X₁.named hnamed) (hpre vm₁ X₁.warmed) with ⟨v, B, X', hpost, hsteps⟩ | ⟨q, B, X', hpost, hsteps⟩
  · exact Or.inl ⟨v, vm₁, B, X₁.warmed, X', hpost, fun target h => hstep₁ _ fun acts => by rw [doInvoke_state]; exact hsteps.trans h⟩
  · exact Or.inr ⟨q, vm₁, B, X₁.warmed, X', hpost, hstep₁ _ fun acts => by rw [doInvoke_state]; exact hsteps⟩
theorem vx_callS (X : Stand p l e R s m args below meth c T locs cells slots) (hexec : p.tables.exec = Jvm.exec) {own : String} {index : Nat} {y : MethodName} {bytes : ByteArray} {maxL : Nat} {ret : Option FieldType}
    (hown : s.vm.findClass own = some m.cls) (hlink : (Cond.methodLink own index y).before args s = true) (hstat : (Cond.static y).before args s = true) (hinit : (Cond.initialized y.cls).before args s = true)
    (hcode : (Cond.code y bytes maxL ret).before args s = true) (hy : y.cls ≠ "java/lang/invoke/MethodHandle" ∧ y.cls ≠ "java/lang/invoke/VarHandle")
    {W9 : Nat} {Pre : Pt → Array Value → Prop} {Post : Pt → Array Value → Option Value → Pt → Prop} {PostX : Pt → Array Value → Addr → Pt → Prop} (hK : vx_Back l R p e below s args y 3 W9 Pre Post PostX)
    {g : JFrame} (hg : g.method = m) (hsize : g.locals.size = c.maxLocals) {argsL rest : List Value} (hlen : ∀ sig, parseMethodDescriptor y.desc = some sig → argsL.length = sig.parameters.length)
    (hstack : g.stack = argsL.reverse ++ rest) (hW : 2 * g.monitorRoom + (rest.map fun v => v.category).sum ≤ W9) (hdg : decode c.code g.pc = .ok (.invokestatic index, 3))
    (hpre : ∀ vm₁, s.WarmedH vm₁ → Pre ⟨T.setVm vm₁, locs, cells, slots⟩ argsL.toArray) :
    (∃ (v : Option Value) (vm₁ : Vm) (B : Pt), s.WarmedH vm₁ ∧ Stand p l e R s m args below meth c B.U B.locs B.cells B.slots ∧ Post ⟨T.setVm vm₁, locs, cells, slots⟩ argsL.toArray v B ∧
      ∀ target, Steps p.tables e below (B.U.setTop { g with pc := g.pc + 3, stack := v.toList ++ rest }) target → Steps p.tables e below (T.setTop g) target) ∨
    (∃ (q : Addr) (vm₁ : Vm) (B : Pt), s.WarmedH vm₁ ∧ Stand p l e R s m args below meth c B.U B.locs B.cells B.slots ∧ PostX ⟨T.setVm vm₁, locs, cells, slots⟩ argsL.toArray q B ∧
      Steps p.tables e below (T.setTop g) ((B.U.setTop { g with stack := rest }).pushFrame (.throwing q))) := by
  obtain ⟨mk, hnamed⟩ := Cond.code_named hcode
  obtain ⟨methM, cM, hmethM, -, -, -, -, -, -, hsigM⟩ := Cond.code_spec hnamed hcode
  have hstatic : methM.isStatic = true := Cond.static_spec hnamed hmethM hstat
  obtain ⟨kP, hkP, -⟩ := className_of_methodNamed hnamed
  have hinitP : kP.init = .initialized := Cond.initialized_spec (findClass_of_methodNamed hnamed) hkP hinit
  obtain ⟨vm₁, X₁, hstep₁⟩ := X.invokestatic hexec hown hlink hnamed hmethM hstatic hkP hinitP hy (g := g) hg (argsL := argsL) (rest := rest) (hlen _ hsigM) hstack hdg
  rcases hK m meth c ⟨T.setVm vm₁, locs, cells, slots⟩ { g with stack := rest } (.invokestatic index) mk argsL.toArray X₁ hg hsize hdg hW (X₁.named hnamed) (hpre vm₁ X₁.warmed) with ⟨v, B, X', hpost, hsteps⟩ | ⟨q, B, X', hpost, hsteps⟩
  · exact Or.inl ⟨v, vm₁, B, X₁.warmed, X', hpost, fun target h => hstep₁ _ fun acts => by rw [doInvoke_state]; exact hsteps.trans h⟩
  · exact Or.inr ⟨q, vm₁, B, X₁.warmed, X', hpost, hstep₁ _ fun acts => by rw [doInvoke_state]; exact hsteps⟩
end Calls
theorem vx_cls {s : State} {T : State} {vm₁ : Vm} {E : String} {k : ClassId} (hW : s.WarmedH vm₁) (h : (T.setVm vm₁).vm.findClass E = some k) : s.vm.findClass E = some k := by
  have h1 : vm₁.findClass E = some k := h
  rw [hW.alike.findClass] at h1
  exact h1
/-- the method's frame g, with q thrown over it -/
def vx_W (p : Program) (l : Launch) (e : Env) (R : Room) (s : State) (m : MethodId) (args : Array Value) (below : List Frame) (meth : Method) (c : Code) (H : Heap) (locs : List Loc) (cells slots : Nat) (Q : State → Prop) (g : JFrame) (q : Addr) : Prop :=
  ∀ T : State, T.heap = H → Stand p l e R s m args below meth c T locs cells slots → ∃ t, Steps p.tables e below ((T.setTop g).pushFrame (.throwing q)) t ∧ Q t
def vx_Run (p : Program) (l : Launch) (e : Env) (R : Room) (s : State) (m : MethodId) (args : Array Value) (below : List Frame) (meth : Method) (c : Code) (H : Heap) (locs : List Loc) (cells slots mc ms : Nat) (g : JFrame) (rest : List Value) (Qa : State → Outcome → State → Prop) (XC : String → State → State → Prop) (free : Addr → Prop) : Prop :=
  ∀ T : State, T.heap = H → Stand p l e R s m args below meth c T locs cells slots →
    (∃ (v : Option Value) (st₀ t T' : State) (L : List Loc), st₀.heap = H ∧ Stand p l e R s m args below meth c T' (locs ++ L) (cells + mc) (slots + ms) ∧ (∀ q ∈ L, free q.base) ∧ T'.heap = t.heap ∧ T'.vm = t.vm ∧ Qa st₀ (.returned v) t ∧
      Goes p e below T g T' { g with pc := g.pc + 3, stack := v.toList ++ rest }) ∨
    (∃ (q : Addr) (st₀ t T' : State) (L : List Loc) (E : String) (ce : Cell), st₀.heap = H ∧ Stand p l e R s m args below meth c T' (locs ++ L) (cells + mc) (slots + ms) ∧ (∀ z ∈ L, free z.base) ∧ T'.heap = t.heap ∧ T'.vm = t.vm ∧ XC E st₀ t ∧ t.heap[q]? = some ce ∧ ce.vm = .none ∧ s.vm.findClass E = some ce.cls ∧
      Steps p.tables e below (T.setTop g) ((T'.setTop { g with stack := rest }).pushFrame (.throwing q)))
def vx_X {S : Type} (px : S → Prop) (B : String → S → State → Prop) (A : Nat → Prop) : String → State → State → Prop := fun E st t => ∃ u : S, px u ∧ B E u t ∧ va_F A st t
section Runs
variable {p : Program} {l : Launch} {e : Env} {R : Room} {s : State} {m : MethodId} {args : Array Value} {below : List Frame} {meth : Method} {c : Code} {H : Heap} {locs : List Loc} {cells slots : Nat}
variable {y : MethodName} {bytes cc : ByteArray} {maxL nL mc ms n index : Nat} {ret : Option FieldType} {ws : List Cond} {rm : Room} {Pc : Array Value → State → Prop} {Qc : Array Value → State → Outcome → State → Prop} {XC : String → State → State → Prop} {free : Addr → Prop} {Ts : List Cond} {own C : String} {b : Addr} {As rest : List Value} {g : JFrame}
theorem vx_callBack (cb : CallB R s args own index y bytes maxL ret ws rm mc ms n) (hM : vx_Met l y ws rm Pc Qc XC mc ms free) (hbl : FrameBlind Pc) : vx_Back l R p e below s args y 3 8 (PreOf R mc ms Pc) (PostOf Qc mc ms free) (vx_Post XC mc ms free) := by
  obtain ⟨hrc, hrs, hfr, hlo, hws, hcw, -, hini, -⟩ := cb
  exact vx_back (bytes := bytes) (maxL := maxL) (ret := ret) hM hbl hrc hrs hfr hlo hws hcw (fun a' U hW => word_at hW (Or.inl (by first | rfl | simp [Cond.onTables, Cond.keeps, Cond.steady])) hini)
theorem vx_runV (S : CallFix p m c cc nL s args Ts own) (hM : vx_Met l y ws rm Pc Qc XC mc ms free) (cw : CallW R s args own C index y bytes maxL ret ws rm mc ms n) (hp : PreV s H C b Pc As)
    (hg : g.method = m) (hn : As.length = n) (hsize : g.locals.size = nL) (hstack : g.stack = As.reverse ++ .ref b :: rest) (hW : 2 * g.monitorRoom + (rest.map fun v => v.category).sum ≤ 8) (hdg : decode cc g.pc = .ok (.invokevirtual index, 3)) (hf : cells + mc ≤ R.cells ∧ slots + ms ≤ R.slots) :
    vx_Run p l e R s m args below meth c H locs cells slots mc ms g rest (Qc (Value.ref b :: As).toArray) XC free := by
  have hK : vx_Back l R p e below s args y 3 8 (PreOf R mc ms Pc) (PostOf Qc mc ms free) (vx_Post XC mc ms free) := vx_callBack cw.1 hM hp.1
  obtain ⟨⟨-, -, -, -, -, -, hcode, -, hy, hlen, hl⟩, hin, hse⟩ := cw
  obtain ⟨hx, hb, hml, ho, -⟩ := S
  obtain ⟨-, ⟨cellB, hcB, hoB, hclB⟩, hPc⟩ := hp
  intro T hT X
  rcases vx_callV X hx (C := C) (bytes := bytes) (maxL := maxL) (ret := ret) ho hl hin hse hcode hy hK (by rw [hT]; exact hcB) hoB hclB hg (hsize.trans hml.symm) (argsL := As) (rest := rest) (fun sig h => hn.trans (hlen sig h)) hstack hW (by rw [hb]; exact hdg)
    (fun vm₁ hW₁ => ⟨hf.1, hf.2, hPc (T.setVm vm₁) hT hW₁⟩) with ⟨v, vm₁, ⟨U', l2, c2, s2⟩, hW₁, X', ⟨g', mk, t, L, e1, e2, hq, h1, hL, h2, h3⟩, st⟩ | ⟨q, vm₁, ⟨U', l2, c2, s2⟩, hW₁, X', ⟨g', mk, t, L, E, ce, e1, e2, hq, hce, hcv, hcl, h1, hL, h2, h3⟩, st⟩
  · dsimp only [Pt.U, Pt.locs, Pt.cells, Pt.slots] at X' e1 e2 h1 h2 h3 st
    subst h1; subst h2; subst h3
    exact Or.inl ⟨v, (T.setVm vm₁).calling g' mk (Value.ref b :: As).toArray, t, U', L, hT, X', hL, e1, e2, hq, st⟩
  · dsimp only [Pt.U, Pt.locs, Pt.cells, Pt.slots] at X' e1 e2 h1 h2 h3 st hcl
    subst h1; subst h2; subst h3
    exact Or.inr ⟨q, (T.setVm vm₁).calling g' mk (Value.ref b :: As).toArray, t, U', L, E, ce, hT, X', hL, e1, e2, hq, hce, hcv, vx_cls hW₁ hcl, st⟩
theorem vx_runS (S : CallFix p m c cc nL s args Ts own) (hM : vx_Met l y ws rm Pc Qc XC mc ms free) (cw : CallB R s args own index y bytes maxL ret ws rm mc ms n ∧ (Cond.static y).before args s = true) (hp : PreS s H Pc As)
    (hg : g.method = m) (hn : As.length = n) (hsize : g.locals.size = nL) (hstack : g.stack = As.reverse ++ rest) (hW : 2 * g.monitorRoom + (rest.map fun v => v.category).sum ≤ 8) (hdg : decode cc g.pc = .ok (.invokestatic index, 3)) (hf : cells + mc ≤ R.cells ∧ slots + ms ≤ R.slots) :
    vx_Run p l e R s m args below meth c H locs cells slots mc ms g rest (Qc As.toArray) XC free := by
  have hK : vx_Back l R p e below s args y 3 8 (PreOf R mc ms Pc) (PostOf Qc mc ms free) (vx_Post XC mc ms free) := vx_callBack cw.1 hM hp.1
  obtain ⟨⟨-, -, -, -, -, -, hcode, hini, hy, hlen, hl⟩, hstt⟩ := cw
  obtain ⟨hx, hb, hml, ho, -⟩ := S
  intro T hT X
  rcases vx_callS X hx (bytes := bytes) (maxL := maxL) (ret := ret) ho hl hstt hini hcode hy hK hg (hsize.trans hml.symm) (argsL := As) (rest := rest) (fun sig h => hn.trans (hlen sig h)) hstack hW (by rw [hb]; exact hdg)
    (fun vm₁ hW₁ => ⟨hf.1, hf.2, hp.2 (T.setVm vm₁) hT hW₁⟩) with ⟨v, vm₁, ⟨U', l2, c2, s2⟩, hW₁, X', ⟨g', mk, t, L, e1, e2, hq, h1, hL, h2, h3⟩, st⟩ | ⟨q, vm₁, ⟨U', l2, c2, s2⟩, hW₁, X', ⟨g', mk, t, L, E, ce, e1, e2, hq, hce, hcv, hcl, h1, hL, h2, h3⟩, st⟩
  · dsimp only [Pt.U, Pt.locs, Pt.cells, Pt.slots] at X' e1 e2 h1 h2 h3 st
    subst h1; subst h2; subst h3
    exact Or.inl ⟨v, (T.setVm vm₁).calling g' mk As.toArray, t, U', L, hT, X', hL, e1, e2, hq, st⟩
  · dsimp only [Pt.U, Pt.locs, Pt.cells, Pt.slots] at X' e1 e2 h1 h2 h3 st hcl
    subst h1; subst h2; subst h3
    exact Or.inr ⟨q, (T.setVm vm₁).calling g' mk As.toArray, t, U', L, E, ce, hT, X', hL, e1, e2, hq, hce, hcv, vx_cls hW₁ hcl, st⟩
end Runs
section Rows
variable {p : Program} {l : Launch} {e : Env} {R : Room} {s : State} {m : MethodId} {args : Array Value} {below : List Frame} {meth : Method} {c : Code} {H : Heap} {locs : List Loc} {cells slots : Nat} {Q : State → Prop}
variable {mc ms : Nat} {free : Addr → Prop} {A0 A1 : Nat → Prop} {H0 : Heap} {a : Array Value} {pc : Nat} {ls : Array Slot} {st0 rest : List Value}
theorem vx_keep {st₀ t T' : State} {L : List Loc} (h0 : st₀.heap = H) (e1 : T'.heap = t.heap) (hS : va_S A0 H0 H locs) (hA : ∀ q, q < H.size → A1 q → A0 q) (hf : ∀ q, free q → A0 q) (hL : ∀ q ∈ L, free q.base) (hF : va_F A1 st₀ t) :
    H.size ≤ T'.heap.size ∧ (∀ q : Nat, q < H.size → ¬ A1 q → T'.heap[q]? = H[q]?) ∧ va_S A0 H0 T'.heap (locs ++ L) := by
  obtain ⟨hz, hk⟩ := hF
  rw [h0] at hz hk
  exact ⟨by rw [e1]; exact hz, fun q h1 h2 => by rw [e1]; exact hk q h1 h2,
    ⟨Nat.le_trans hS.1 (by rw [e1]; exact hz), fun q h1 h2 => by rw [e1, hk q (Nat.lt_of_lt_of_le h1 hS.1) (fun z => h2 (hA q (Nat.lt_of_lt_of_le h1 hS.1) z))]; exact hS.2.1 q h1 h2, fun q hq => by
      rcases List.mem_append.mp hq with h | h
      · exact hS.2.2 q h
      · exact hf _ (hL q h)⟩⟩
theorem vx_calli {S SX : Type} {post : Int32 → S → Prop} {px : SX → Prop} {B : S → State → Prop} {BX : String → SX → State → Prop} {AX : Nat → Prop} (hr : vx_Run p l e R s m args below meth c H locs cells slots mc ms (F0 m pc ls st0) rest (va_Qi post B A1 a) (vx_X px BX AX) free) (hS : va_S A0 H0 H locs) (hA : ∀ q, q < H.size → A1 q → A0 q) (hf : ∀ q, free q → A0 q) (hAX : ∀ q, q < H.size → AX q → A0 q)
    (kx : ∀ (E : String) (ce : Cell) (q9 : Addr) (u : SX) (t : State) (H1 : Heap) (locs1 : List Loc), t.heap = H1 → s.vm.Alike t.vm → px u → BX E u t → H.size ≤ H1.size → (∀ q : Nat, q < H.size → ¬ AX q → H1[q]? = H[q]?) → va_S A0 H0 H1 locs1 → H1[q9]? = some ce → ce.vm = .none → s.vm.findClass E = some ce.cls → vx_W p l e R s m args below meth c H1 locs1 (cells + mc) (slots + ms) Q (F0 m pc ls rest) q9)
    (kk : ∀ (r : Int32) (u : S) (t : State) (H1 : Heap) (locs1 : List Loc), t.heap = H1 → s.vm.Alike t.vm → post r u → B u t → H.size ≤ H1.size → (∀ q : Nat, q < H.size → ¬ A1 q → H1[q]? = H[q]?) → va_S A0 H0 H1 locs1 → W p l e R s m args below meth c H1 locs1 (cells + mc) (slots + ms) Q (F0 m (pc + 3) ls (.int r :: rest))) : W p l e R s m args below meth c H locs cells slots Q (F0 m pc ls st0) := by
  intro T hT X
  rcases hr T hT X with ⟨v, st₀, t, T', L, h0, X', hL, e1, e2, ⟨⟨r, u, hv, hp, hb⟩, hF⟩, st⟩ | ⟨q, st₀, t, T', L, E, ce, h0, X', hL, e1, e2, ⟨u, hp, hb, hF⟩, hce, hcv, hcl, st⟩
  · cases hv
    obtain ⟨k1, k2, k3⟩ := vx_keep h0 e1 hS hA hf hL hF
    obtain ⟨t2, a1, b1⟩ := kk r u t T'.heap (locs ++ L) e1.symm (by rw [← e2]; exact X'.warmed.alike) hp hb k1 k2 k3 T' rfl X'
    exact ⟨t2, st t2 a1, b1⟩
  · obtain ⟨k1, k2, k3⟩ := vx_keep h0 e1 hS hAX hf hL hF
    obtain ⟨t2, a1, b1⟩ := kx E ce q u t T'.heap (locs ++ L) e1.symm (by rw [← e2]; exact X'.warmed.alike) hp hb k1 k2 k3 (by rw [e1]; exact hce) hcv hcl T' rfl X'
    exact ⟨t2, st.trans a1, b1⟩
theorem vx_calll {S SX : Type} {post : Int64 → S → Prop} {px : SX → Prop} {B : S → State → Prop} {BX : String → SX → State → Prop} {AX : Nat → Prop} (hr : vx_Run p l e R s m args below meth c H locs cells slots mc ms (F0 m pc ls st0) rest (va_Ql post B A1 a) (vx_X px BX AX) free) (hS : va_S A0 H0 H locs) (hA : ∀ q, q < H.size → A1 q → A0 q) (hf : ∀ q, free q → A0 q) (hAX : ∀ q, q < H.size → AX q → A0 q)
    (kx : ∀ (E : String) (ce : Cell) (q9 : Addr) (u : SX) (t : State) (H1 : Heap) (locs1 : List Loc), t.heap = H1 → s.vm.Alike t.vm → px u → BX E u t → H.size ≤ H1.size → (∀ q : Nat, q < H.size → ¬ AX q → H1[q]? = H[q]?) → va_S A0 H0 H1 locs1 → H1[q9]? = some ce → ce.vm = .none → s.vm.findClass E = some ce.cls → vx_W p l e R s m args below meth c H1 locs1 (cells + mc) (slots + ms) Q (F0 m pc ls rest) q9)
    (kk : ∀ (r : Int64) (u : S) (t : State) (H1 : Heap) (locs1 : List Loc), t.heap = H1 → s.vm.Alike t.vm → post r u → B u t → H.size ≤ H1.size → (∀ q : Nat, q < H.size → ¬ A1 q → H1[q]? = H[q]?) → va_S A0 H0 H1 locs1 → W p l e R s m args below meth c H1 locs1 (cells + mc) (slots + ms) Q (F0 m (pc + 3) ls (.long r :: rest))) : W p l e R s m args below meth c H locs cells slots Q (F0 m pc ls st0) := by
  intro T hT X
  rcases hr T hT X with ⟨v, st₀, t, T', L, h0, X', hL, e1, e2, ⟨⟨r, u, hv, hp, hb⟩, hF⟩, st⟩ | ⟨q, st₀, t, T', L, E, ce, h0, X', hL, e1, e2, ⟨u, hp, hb, hF⟩, hce, hcv, hcl, st⟩
  · cases hv
    obtain ⟨k1, k2, k3⟩ := vx_keep h0 e1 hS hA hf hL hF
    obtain ⟨t2, a1, b1⟩ := kk r u t T'.heap (locs ++ L) e1.symm (by rw [← e2]; exact X'.warmed.alike) hp hb k1 k2 k3 T' rfl X'
    exact ⟨t2, st t2 a1, b1⟩
  · obtain ⟨k1, k2, k3⟩ := vx_keep h0 e1 hS hAX hf hL hF
    obtain ⟨t2, a1, b1⟩ := kx E ce q u t T'.heap (locs ++ L) e1.symm (by rw [← e2]; exact X'.warmed.alike) hp hb k1 k2 k3 (by rw [e1]; exact hce) hcv hcl T' rfl X'
    exact ⟨t2, st.trans a1, b1⟩
theorem vx_callf {S SX : Type} {post : UInt32 → S → Prop} {px : SX → Prop} {B : S → State → Prop} {BX : String → SX → State → Prop} {AX : Nat → Prop} (hr : vx_Run p l e R s m args below meth c H locs cells slots mc ms (F0 m pc ls st0) rest (va_Qf post B A1 a) (vx_X px BX AX) free) (hS : va_S A0 H0 H locs) (hA : ∀ q, q < H.size → A1 q → A0 q) (hf : ∀ q, free q → A0 q) (hAX : ∀ q, q < H.size → AX q → A0 q)
    (kx : ∀ (E : String) (ce : Cell) (q9 : Addr) (u : SX) (t : State) (H1 : Heap) (locs1 : List Loc), t.heap = H1 → s.vm.Alike t.vm → px u → BX E u t → H.size ≤ H1.size → (∀ q : Nat, q < H.size → ¬ AX q → H1[q]? = H[q]?) → va_S A0 H0 H1 locs1 → H1[q9]? = some ce → ce.vm = .none → s.vm.findClass E = some ce.cls → vx_W p l e R s m args below meth c H1 locs1 (cells + mc) (slots + ms) Q (F0 m pc ls rest) q9)
    (kk : ∀ (r : UInt32) (u : S) (t : State) (H1 : Heap) (locs1 : List Loc), t.heap = H1 → s.vm.Alike t.vm → post r u → B u t → H.size ≤ H1.size → (∀ q : Nat, q < H.size → ¬ A1 q → H1[q]? = H[q]?) → va_S A0 H0 H1 locs1 → W p l e R s m args below meth c H1 locs1 (cells + mc) (slots + ms) Q (F0 m (pc + 3) ls (.float r :: rest))) : W p l e R s m args below meth c H locs cells slots Q (F0 m pc ls st0) := by
  intro T hT X
  rcases hr T hT X with ⟨v, st₀, t, T', L, h0, X', hL, e1, e2, ⟨⟨r, u, hv, hp, hb⟩, hF⟩, st⟩ | ⟨q, st₀, t, T', L, E, ce, h0, X', hL, e1, e2, ⟨u, hp, hb, hF⟩, hce, hcv, hcl, st⟩
  · cases hv
    obtain ⟨k1, k2, k3⟩ := vx_keep h0 e1 hS hA hf hL hF
    obtain ⟨t2, a1, b1⟩ := kk r u t T'.heap (locs ++ L) e1.symm (by rw [← e2]; exact X'.warmed.alike) hp hb k1 k2 k3 T' rfl X'
    exact ⟨t2, st t2 a1, b1⟩
  · obtain ⟨k1, k2, k3⟩ := vx_keep h0 e1 hS hAX hf hL hF
    obtain ⟨t2, a1, b1⟩ := kx E ce q u t T'.heap (locs ++ L) e1.symm (by rw [← e2]; exact X'.warmed.alike) hp hb k1 k2 k3 (by rw [e1]; exact hce) hcv hcl T' rfl X'
    exact ⟨t2, st.trans a1, b1⟩
theorem vx_calld {S SX : Type} {post : UInt64 → S → Prop} {px : SX → Prop} {B : S → State → Prop} {BX : String → SX → State → Prop} {AX : Nat → Prop} (hr : vx_Run p l e R s m args below meth c H locs cells slots mc ms (F0 m pc ls st0) rest (va_Qd post B A1 a) (vx_X px BX AX) free) (hS : va_S A0 H0 H locs) (hA : ∀ q, q < H.size → A1 q → A0 q) (hf : ∀ q, free q → A0 q) (hAX : ∀ q, q < H.size → AX q → A0 q)
    (kx : ∀ (E : String) (ce : Cell) (q9 : Addr) (u : SX) (t : State) (H1 : Heap) (locs1 : List Loc), t.heap = H1 → s.vm.Alike t.vm → px u → BX E u t → H.size ≤ H1.size → (∀ q : Nat, q < H.size → ¬ AX q → H1[q]? = H[q]?) → va_S A0 H0 H1 locs1 → H1[q9]? = some ce → ce.vm = .none → s.vm.findClass E = some ce.cls → vx_W p l e R s m args below meth c H1 locs1 (cells + mc) (slots + ms) Q (F0 m pc ls rest) q9)
    (kk : ∀ (r : UInt64) (u : S) (t : State) (H1 : Heap) (locs1 : List Loc), t.heap = H1 → s.vm.Alike t.vm → post r u → B u t → H.size ≤ H1.size → (∀ q : Nat, q < H.size → ¬ A1 q → H1[q]? = H[q]?) → va_S A0 H0 H1 locs1 → W p l e R s m args below meth c H1 locs1 (cells + mc) (slots + ms) Q (F0 m (pc + 3) ls (.double r :: rest))) : W p l e R s m args below meth c H locs cells slots Q (F0 m pc ls st0) := by
  intro T hT X
  rcases hr T hT X with ⟨v, st₀, t, T', L, h0, X', hL, e1, e2, ⟨⟨r, u, hv, hp, hb⟩, hF⟩, st⟩ | ⟨q, st₀, t, T', L, E, ce, h0, X', hL, e1, e2, ⟨u, hp, hb, hF⟩, hce, hcv, hcl, st⟩
  · cases hv
    obtain ⟨k1, k2, k3⟩ := vx_keep h0 e1 hS hA hf hL hF
    obtain ⟨t2, a1, b1⟩ := kk r u t T'.heap (locs ++ L) e1.symm (by rw [← e2]; exact X'.warmed.alike) hp hb k1 k2 k3 T' rfl X'
    exact ⟨t2, st t2 a1, b1⟩
  · obtain ⟨k1, k2, k3⟩ := vx_keep h0 e1 hS hAX hf hL hF
    obtain ⟨t2, a1, b1⟩ := kx E ce q u t T'.heap (locs ++ L) e1.symm (by rw [← e2]; exact X'.warmed.alike) hp hb k1 k2 k3 (by rw [e1]; exact hce) hcv hcl T' rfl X'
    exact ⟨t2, st.trans a1, b1⟩
theorem vx_callv {S SX : Type} {post : S → Prop} {px : SX → Prop} {B : S → State → Prop} {BX : String → SX → State → Prop} {AX : Nat → Prop} (hr : vx_Run p l e R s m args below meth c H locs cells slots mc ms (F0 m pc ls st0) rest (va_Qv post B A1 a) (vx_X px BX AX) free) (hS : va_S A0 H0 H locs) (hA : ∀ q, q < H.size → A1 q → A0 q) (hf : ∀ q, free q → A0 q) (hAX : ∀ q, q < H.size → AX q → A0 q)
    (kx : ∀ (E : String) (ce : Cell) (q9 : Addr) (u : SX) (t : State) (H1 : Heap) (locs1 : List Loc), t.heap = H1 → s.vm.Alike t.vm → px u → BX E u t → H.size ≤ H1.size → (∀ q : Nat, q < H.size → ¬ AX q → H1[q]? = H[q]?) → va_S A0 H0 H1 locs1 → H1[q9]? = some ce → ce.vm = .none → s.vm.findClass E = some ce.cls → vx_W p l e R s m args below meth c H1 locs1 (cells + mc) (slots + ms) Q (F0 m pc ls rest) q9)
    (kk : ∀ (u : S) (t : State) (H1 : Heap) (locs1 : List Loc), t.heap = H1 → s.vm.Alike t.vm → post u → B u t → H.size ≤ H1.size → (∀ q : Nat, q < H.size → ¬ A1 q → H1[q]? = H[q]?) → va_S A0 H0 H1 locs1 → W p l e R s m args below meth c H1 locs1 (cells + mc) (slots + ms) Q (F0 m (pc + 3) ls (rest))) : W p l e R s m args below meth c H locs cells slots Q (F0 m pc ls st0) := by
  intro T hT X
  rcases hr T hT X with ⟨v, st₀, t, T', L, h0, X', hL, e1, e2, ⟨⟨u, hv, hp, hb⟩, hF⟩, st⟩ | ⟨q, st₀, t, T', L, E, ce, h0, X', hL, e1, e2, ⟨u, hp, hb, hF⟩, hce, hcv, hcl, st⟩
  · cases hv
    obtain ⟨k1, k2, k3⟩ := vx_keep h0 e1 hS hA hf hL hF
    obtain ⟨t2, a1, b1⟩ := kk u t T'.heap (locs ++ L) e1.symm (by rw [← e2]; exact X'.warmed.alike) hp hb k1 k2 k3 T' rfl X'
    exact ⟨t2, st t2 a1, b1⟩
  · obtain ⟨k1, k2, k3⟩ := vx_keep h0 e1 hS hAX hf hL hF
    obtain ⟨t2, a1, b1⟩ := kx E ce q u t T'.heap (locs ++ L) e1.symm (by rw [← e2]; exact X'.warmed.alike) hp hb k1 k2 k3 (by rw [e1]; exact hce) hcv hcl T' rfl X'
    exact ⟨t2, st.trans a1, b1⟩
/-- caught by the row x of this method's table; the rows ahead don't take it -/
theorem vx_catch {own name : String} {E : String} {ce : Cell} {q : Addr} (hown : s.vm.findClass own = some m.cls) (pre : List ExceptionTableEntry) (x : ExceptionTableEntry) (suf : List ExceptionTableEntry) (hsplit : c.exceptionTable.toList = pre ++ x :: suf)
    (hpass : ∀ z ∈ pre, covers z pc = false ∨ (z.catchType ≠ 0 ∧ ∃ nm : String, (Cond.classLink own z.catchType nm).before args s = true ∧ va_Nc E nm s)) (hx : covers x pc = true) (h0 : x.catchType ≠ 0)
    (hlink : (Cond.classLink own x.catchType name).before args s = true) (hcast : (Cond.castable E name).before args s = true) (hcell : H[q]? = some ce) (hv : ce.vm = .none) (hcl : s.vm.findClass E = some ce.cls)
    (kk : W p l e R s m args below meth c H locs cells slots Q (F0 m x.handlerPc ls [.ref q])) : vx_W p l e R s m args below meth c H locs cells slots Q (F0 m pc ls rest) q := by
  intro T hT X
  have hpl : e.platform.magicAccessors = ({} : Platform).magicAccessors := by rw [X.admits.platform]
  obtain ⟨c3, c4, hc3, hc4, hasg⟩ := Cond.castable_spec hcast
  cases Option.some.inj (hc3.symm.trans hcl)
  obtain ⟨c5, hc5, hcl5⟩ := Cond.classLink_spec hown hlink e.platform hpl
  cases Option.some.inj (hc4.symm.trans hc5)
  obtain ⟨vm', X', st⟩ := X.thenCaughtThrough q (g := F0 m pc ls rest) rfl (Steps.refl _) (by rw [hT]; exact hcell) (by rw [hv]; rfl) (by obtain ⟨k9, h9, -⟩ := Vm.findClass_spec hcl; exact ⟨k9, h9⟩) pre x suf hsplit
    (fun z hz => by
      rcases hpass z hz with h | ⟨hz0, nm, hl1, hn1⟩
      · exact Or.inl h
      · obtain ⟨c6, hc6, hcl6⟩ := Cond.classLink_spec hown hl1 e.platform hpl
        obtain ⟨a8, b8, h1, h2, h3⟩ := hn1
        cases Option.some.inj (h1.symm.trans hcl)
        cases Option.some.inj (h2.symm.trans hc6)
        exact Or.inr ⟨hz0, _, hcl6, h3⟩) hx (Or.inr ⟨h0, c4, hcl5, hasg⟩)
  obtain ⟨t, a1, b1⟩ := kk (T.setVm vm') hT X'
  exact ⟨t, st.trans a1, b1⟩
end Rows
section Ends
variable {p : Program} {l : Launch} {e : Env} {R : Room} {s : State} {m : MethodId} {args : Array Value} {below : List Frame} {meth : Method} {c : Code} {H : Heap} {locs : List Loc} {cells slots : Nat} {Q : State → Prop}
variable {mc ms : Nat} {free : Addr → Prop} {A0 A1 : Nat → Prop} {H0 : Heap} {a : Array Value} {ls : Array Slot} {st0 rest : List Value}
variable {Qc : Array Value → State → Outcome → State → Prop} {XC : String → State → State → Prop}
/-- what a body that may throw owes at its end -/
def vx_MQ (below : List Frame) (Qc : Array Value → State → Outcome → State → Prop) (XC : String → State → State → Prop) (a : Array Value) (s : State) (mc ms : Nat) (free : Addr → Prop) : State → Prop := fun t =>
  ∃ o, t.status = .running ∧ Ended t below o ∧ vx_Q Qc XC mc ms free a s o t
theorem vx_ret {g : JFrame} {mc ms : Nat} (k : W p l e R s m args below meth c H locs cells slots (MQ below Qc args s mc ms free) g) : W p l e R s m args below meth c H locs cells slots (vx_MQ below Qc XC args s mc ms free) g := by
  intro T hT X
  obtain ⟨t, a1, o, b1, b2, b3, b4⟩ := k T hT X
  exact ⟨t, a1, o, b1, b2, Or.inl ⟨b3, b4⟩⟩
/-- not caught here: it goes on to the caller -/
theorem vx_widen {g : JFrame} {q : Addr} {k n : Nat} (h1 : cells ≤ k) (h2 : slots ≤ n) (kk : vx_W p l e R s m args below meth c H locs k n Q g q) : vx_W p l e R s m args below meth c H locs cells slots Q g q := fun T hT X => kk T hT (stand_widen X h1 h2)
theorem vx_out {pc : Nat} {E : String} {ce : Cell} {q : Addr} {mc ms : Nat} (hout : ∀ x ∈ c.exceptionTable.toList, covers x pc = false) (hlocks : meth.locks = false) (hcell : H[q]? = some ce) (hv : ce.vm = .none) (hcl : s.vm.findClass E = some ce.cls)
    (hx : ∀ t : State, t.heap = H → s.vm.Alike t.vm → XC E s t) (hf : ∀ z ∈ locs, free z.base) (hc : cells ≤ mc) (hs : slots ≤ ms) :
    vx_W p l e R s m args below meth c H locs cells slots (vx_MQ below Qc XC args s mc ms free) (F0 m pc ls rest) q := by
  intro T hT X
  obtain ⟨st1, hrun, hend, hW, hsm⟩ := X.leaveThrown q (g := F0 m pc ls rest) rfl rfl rfl hout hlocks
  have hcell9 : (T.setFrames (.throwing q :: below)).heap[q]? = some ce := by
    show T.heap[q]? = some ce
    rw [hT]; exact hcell
  exact ⟨_, st1, .threw q, hrun, hend, Or.inr ⟨q, rfl, E, ce, locs, hx _ hT hW.alike, hcell9, hv, hcl, hW, hsm.mono hc hs, hf⟩⟩
theorem vx_frame {U : State} {k n : Nat} (h : s.sameButNew ({ U with vm := s.vm } : State) locs k n) : s.heap.size ≤ U.heap.size ∧ ∀ q : Nat, q < s.heap.size → (∀ z ∈ locs, z.base ≠ q) → U.heap[q]? = s.heap[q]? := by
  obtain ⟨-, h2, -, -, -, h6⟩ := h
  refine ⟨h2, fun q hq hz => ?_⟩
  obtain ⟨c9, e1, e2, e3, e4⟩ := h6 q _ (Array.getElem?_eq_getElem hq)
  have hs : c9.slots = (s.heap[q]).slots := Array.ext_getElem? fun i => e4 i fun hm => hz _ hm rfl
  have h9 : c9 = s.heap[q] := by
    rw [hs] at e2
    exact e2
  have e5 : U.heap[q]? = some c9 := e1
  rw [e5, h9, Array.getElem?_eq_getElem hq]
/-- the words of a throw but the four that speak of the heap -/
def vx_no (w : Cond) : Bool := decide (w ≠ .isRef (.static Bundle.tN "UNASSIGNED_STACK" Bundle.steD)) && decide (w ≠ .isRef (.static Bundle.tN "SUPPRESSED_SENTINEL" Bundle.listD)) && decide (w ≠ .laysStatic Bundle.tN "UNASSIGNED_STACK" Bundle.steD) && decide (w ≠ .laysStatic Bundle.tN "SUPPRESSED_SENTINEL" Bundle.listD)
def vx_at0 (own : String) (ic : Nat) (X : String) (names : List String) : List Cond := (Bundle.ownAtoms0 own ic X names).filter vx_no
def vx_atS (own : String) (ic : Nat) (X : String) (names : List String) : List Cond := (Bundle.ownAtoms own ic X names).filter vx_no
/-- a word that the tables alone decide, or a good one -/
def vx_ot (w : Cond) : Bool := w.onTables || goodWord w
theorem vx_ot_at {args a' : Array Value} {s U : State} {w : Cond} (hW : s.WarmedH U.vm) (hvm : s.vm = U.vm) (hg : vx_ot w = true) (h : w.before args s = true) : w.before a' U = true := by
  simp only [vx_ot, Bool.or_eq_true] at hg
  rcases hg with hg | hg
  · exact va_tabs hg hvm h
  · exact word_at hW (good_of_word hg) h
/-- a list's words: the good ones out of the method's own list, the others by premises of their own -/
theorem vx_hat {args : Array Value} {s : State} {L B : List Cond} (h1 : ∀ w ∈ L.filter goodWord, w.before args s = true) (h2 : ∀ w ∈ L.filter (fun w => !goodWord w), w ∈ B) (h3 : ∀ w ∈ B, w.before args s = true) : ∀ w ∈ L, w.before args s = true := by
  intro w hw
  by_cases g : goodWord w = true
  · exact h1 w (List.mem_filter.mpr ⟨hw, g⟩)
  · refine h3 w (h2 w (List.mem_filter.mpr ⟨hw, ?_⟩))
    show (!goodWord w) = true
    cases hgw : goodWord w
    · rfl
    · exact absurd hgw g
theorem vx_c {args : Array Value} {s : State} {w : Cond} {B : List Cond} (h : w.before args s = true) (t : ∀ w ∈ B, w.before args s = true) : ∀ w' ∈ w :: B, w'.before args s = true := fun w' h' => (List.mem_cons.mp h').elim (fun e => by rw [e]; exact h) (t w')
theorem vx_n {args : Array Value} {s : State} : ∀ w ∈ ([] : List Cond), w.before args s = true := fun _ h => nomatch h
theorem vx_own {args : Array Value} {s : State} {L : List Cond} (h1 : ∀ w ∈ L.filter vx_no, w.before args s = true)
    (hU : (Cond.isRef (.static Bundle.tN "UNASSIGNED_STACK" Bundle.steD)).before args s = true) (hN : (Cond.isRef (.static Bundle.tN "SUPPRESSED_SENTINEL" Bundle.listD)).before args s = true)
    (lU : (Cond.laysStatic Bundle.tN "UNASSIGNED_STACK" Bundle.steD).before args s = true) (lN : (Cond.laysStatic Bundle.tN "SUPPRESSED_SENTINEL" Bundle.listD).before args s = true) : ∀ w ∈ L, w.before args s = true := by
  intro w hw
  by_cases e1 : w = .isRef (.static Bundle.tN "UNASSIGNED_STACK" Bundle.steD)
  · rw [e1]; exact hU
  · by_cases e2 : w = .isRef (.static Bundle.tN "SUPPRESSED_SENTINEL" Bundle.listD)
    · rw [e2]; exact hN
    · by_cases e3 : w = .laysStatic Bundle.tN "UNASSIGNED_STACK" Bundle.steD
      · rw [e3]; exact lU
      · by_cases e4 : w = .laysStatic Bundle.tN "SUPPRESSED_SENTINEL" Bundle.listD
        · rw [e4]; exact lN
        · exact h1 w (List.mem_filter.mpr ⟨hw, by unfold vx_no; rw [decide_eq_true e1, decide_eq_true e2, decide_eq_true e3, decide_eq_true e4]; rfl⟩)
/-- where a static field lies, its class's statics cell in H -/
def vx_L (C n d : String) (A : Nat → Prop) (U : State) (H : Heap) : Prop := ∃ (c : ClassId) (k : Class) (i : Nat) (f : Field) (a : Nat) (cell : Cell), U.vm.findClass C = some c ∧ U.fieldFound? C n d = some (c, k, i, f) ∧ f.isStatic = true ∧ k.statics = some a ∧ H[a]? = some cell ∧ cell.vm.isStatics = true ∧ cell.cls = c ∧ f.slot < cell.slots.size ∧ k.staticTypes[f.slot]? = some f.type ∧ ¬ A a
theorem vx_L.moved {C n d : String} {A : Nat → Prop} {u U : State} {H : Heap} (hvm : u.vm.Alike U.vm) (h : vx_L C n d A u H) : vx_L C n d A U H := by
  obtain ⟨c, k, i, f, a, cell, h1, h2, h3, h4, h5, h6, h7, h8, h9, h10⟩ := h
  obtain ⟨k', hi', he⟩ := State.fieldFound?_setVm hvm h2
  exact ⟨c, k', i, f, a, cell, by rw [hvm.findClass]; exact h1, hi', h3, by rw [he]; exact h4, h5, h6, h7, h8, by rw [he]; exact h9, h10⟩
theorem vx_L.kept {C n d : String} {A : Nat → Prop} {U : State} {H H1 : Heap} (h : vx_L C n d A U H) (hq : ∀ a : Nat, a < H.size → ¬ A a → H1[a]? = H[a]?) : vx_L C n d A U H1 := by
  obtain ⟨c, k, i, f, a, cell, h1, h2, h3, h4, h5, h6, h7, h8, h9, h10⟩ := h
  exact ⟨c, k, i, f, a, cell, h1, h2, h3, h4, by rw [hq a (Array.getElem?_eq_some_iff.mp h5).1 h10]; exact h5, h6, h7, h8, h9, h10⟩
theorem vx_L.narrow {C n d : String} {A B : Nat → Prop} {U : State} {H : Heap} (h : vx_L C n d A U H) (hAB : ∀ q, B q → A q) : vx_L C n d B U H := by
  obtain ⟨c, k, i, f, a, cell, h1, h2, h3, h4, h5, h6, h7, h8, h9, h10⟩ := h
  exact ⟨c, k, i, f, a, cell, h1, h2, h3, h4, h5, h6, h7, h8, h9, fun z => h10 (hAB _ z)⟩
theorem vx_L.word {C n d : String} {A : Nat → Prop} {s : State} {args : Array Value} (h : vx_L C n d A s s.heap) : (Cond.laysStatic C n d).before args s = true := by
  obtain ⟨c, k, i, f, a, cell, h1, h2, h3, h4, h5, h6, h7, h8, h9, -⟩ := h
  show (Cond.laysStatic C n d).holds args s none s [] = true
  exact Cond.laysStatic_of h1 h2 h3 h4 h5 h6 h7 h8 h9
/-- .. and what it holds: null or some reference -/
def vx_Zq (C n d : String) (A : Nat → Prop) (U : State) (H : Heap) : Prop := va_Zq C n d A U H ∧ vx_L C n d A U H
theorem vx_Zq.moved {C n d : String} {A : Nat → Prop} {u U : State} {H : Heap} (hvm : u.vm.Alike U.vm) (h : vx_Zq C n d A u H) : vx_Zq C n d A U H := ⟨va_Zq.moved hvm h.1, vx_L.moved hvm h.2⟩
theorem vx_Zq.kept {C n d : String} {A : Nat → Prop} {U : State} {H H1 : Heap} (h : vx_Zq C n d A U H) (hq : ∀ a : Nat, a < H.size → ¬ A a → H1[a]? = H[a]?) : vx_Zq C n d A U H1 := ⟨va_Zq.kept h.1 hq, vx_L.kept h.2 hq⟩
theorem vx_Zq.narrow {C n d : String} {A B : Nat → Prop} {U : State} {H : Heap} (h : vx_Zq C n d A U H) (hAB : ∀ q, B q → A q) : vx_Zq C n d B U H := ⟨va_Zq.narrow h.1 hAB, vx_L.narrow h.2 hAB⟩
theorem vx_Zqof {args : Array Value} {s : State} {C n d : String} {A : Nat → Prop} (hl : (Cond.laysStatic C n d).before args s = true) (hini : (Cond.initialized C).before args s = true) (h : (Cond.isRef (.static C n d)).before args s = true) (hA : ∀ a : Nat, a < s.heap.size → ¬ A a) : vx_Zq C n d A s s.heap := by
  refine ⟨va_Zqof hl hini h hA, ?_⟩
  obtain ⟨c, k, i, f, a, cell, h1, h2, h3, h4, h5, h6, h7, h8, h9⟩ := Cond.laysStatic_spec hl
  exact ⟨c, k, i, f, a, cell, h1, h2, h3, h4, h5, h6, h7, h8, h9, hA a (Array.getElem?_eq_some_iff.mp h5).1⟩
theorem vx_isRef {C n d : String} {v : Value} {A : Nat → Prop} {s : State} {args : Array Value} (h : va_Z C n d v A s s.heap) (hv : v.isRef = true) : (Cond.isRef (.static C n d)).before args s = true := by
  obtain ⟨cf, kf, fi, f, a, cell, h1, h2, h3, h4, h5, h6, h7, -⟩ := h
  have he : (Term.static C n d).eval args s none [] s = some v := by
    simp [Term.eval, State.fieldNamed?, h1, h2, h4, h5, h6, h7]
  simp only [Cond.before, Cond.holds, Cond.value, he]
  cases v <;> simp_all [Value.isRef]
theorem vx_isRefq {C n d : String} {A : Nat → Prop} {s : State} {args : Array Value} (h : va_Zq C n d A s s.heap) : (Cond.isRef (.static C n d)).before args s = true := by
  rcases h with h | ⟨t, h⟩
  · exact vx_isRef h rfl
  · exact vx_isRef h rfl
/-- the same frame, seen from here: as if the method were called anew in this heap -/
theorem vx_rebase {T : State} (X : Stand p l e R s m args below meth c T locs cells slots) {R' : Room} (hf : R'.frames ≤ R.frames) (hl : R'.locals ≤ R.locals) (hc : cells + R'.cells ≤ R.cells) (hs : slots + R'.slots ≤ R.slots) :
    Stand p l e R' ((T.setVm s.vm).setFrames (.invoking m args :: below)) m args below meth c T [] 0 0 := by
  have htop : (T.setVm s.vm).topJava?.isSome := X.here.top
  have hF : ((T.setVm s.vm).setFrames (.invoking m args :: below)).frames = .invoking m args :: below := State.frames_setFrames _ (State.cur_lt_of_top htop)
  obtain ⟨g₀, hg0⟩ := Option.isSome_iff_exists.mp htop
  obtain ⟨r, hr⟩ := State.topJava?_eq_some.mp hg0
  have hl9 : e.platform.stackLimits (T.setVm s.vm).me = e.platform.stackLimits s.me := X.limits
  have hb9 : (T.setVm s.vm).me.stackBytes = s.me.stackBytes := X.bytes
  refine ⟨X.admits, X.cas, X.clock, hF, ?_, X.hears, X.method, X.code, X.here, X.tail, X.warmed, ?_, ?_, ?_⟩
  · have h := X.room
    have hU : ((T.setVm s.vm).setFrames (.invoking m args :: below)).localsInUse = s.localsInUse := by
      rw [State.localsInUse_invoking hF (meth := meth) (c := c) X.method X.code, State.localsInUse_invoking X.frames X.method X.code]
    simp only [State.hasRoom, Bool.and_eq_true, decide_eq_true_eq] at h ⊢
    obtain ⟨⟨⟨⟨h1, h2, h3, h4, h5, h6⟩, h7⟩, h8⟩, h9⟩ := h
    rw [X.frames, List.length_cons] at h2 h3
    have q1 := X.heapSize
    have q2 := X.used
    simp only [hF, hU, List.length_cons, State.stackLimits_setFrames, State.stackBytes_setFrames, hl9, hb9]
    refine ⟨⟨⟨⟨by omega, by omega, by omega, by omega, by omega, h6⟩, ?_⟩, ?_⟩, X.book⟩
    · show T.heap.size + R'.cells ≤ e.platform.maxCells
      omega
    · show T.slotsUsed + R'.slots ≤ e.platform.maxSlots
      omega
  · rw [State.stackLimits_setFrames]; rfl
  · rw [State.stackBytes_setFrames]; rfl
  · refine ⟨?_, Nat.le_refl _, Nat.le_refl _, ?_, ?_, fun a c9 h9 => ⟨c9, h9, rfl, rfl, fun _ _ => rfl⟩⟩
    · obtain ⟨t, ht, -⟩ := State.frames_cons hr
      show T.setVm s.vm = { ((T.setVm s.vm).setFrames (.invoking m args :: below)).setFrames (T.setVm s.vm).frames with heap := T.heap, slotsUsed := T.slotsUsed }
      rw [State.setFrames_setFrames, State.setFrames_self ht]
      rfl
    · show T.slotsUsed = T.slotsUsed + ((T.heap.toList.drop T.heap.size).map (·.slots.size)).sum
      rw [List.drop_eq_nil_of_le (Nat.le_of_eq Array.length_toList)]
      rfl
    · show ((T.heap.toList.drop T.heap.size).map (·.slots.size)).sum ≤ 0
      rw [List.drop_eq_nil_of_le (Nat.le_of_eq Array.length_toList)]
      exact Nat.le_refl _
/-- 'throw new E()': new; dup; invokespecial; athrow -/
theorem vx_throw0 {cc : ByteArray} {pc : Nat} (hexec : p.tables.exec = Jvm.exec) (hb : c.code = cc) (hl : l.stackTraces = false) {own cls : String} {names : List String} {ik ic mc ms : Nat} {A : Nat → Prop}
    (hown : s.vm.findClass own = some m.cls) (hcls : Bundle.fit cls = true) (hnames : ∀ n ∈ names, Bundle.fit n = true)
    (hk : (Cond.classLink own ik cls).before args s = true) (hini : (Cond.initialized cls).before args s = true) (hat : ∀ w ∈ vx_at0 own ic cls names, w.before args s = true)
    (hgood : ∀ w ∈ Cond.classLink own ik cls :: Cond.initialized cls :: vx_at0 own ic cls names, vx_ot w = true)
    (hU : vx_Zq Bundle.tN "UNASSIGNED_STACK" Bundle.steD A s s.heap) (hN : vx_Zq Bundle.tN "SUPPRESSED_SENTINEL" Bundle.listD A s s.heap) (hS : va_S A s.heap H locs) (hsize : ls.size = c.maxLocals)
    (d0 : decode cc pc = .ok (.new ik, 3)) (d3 : decode cc (pc + 3) = .ok (.dup, 1)) (d4 : decode cc (pc + 4) = .ok (.invokespecial ic, 3)) (d7 : decode cc (pc + 7) = .ok (.athrow, 1))
    (hout : ∀ x ∈ c.exceptionTable.toList, covers x (pc + 7) = false)
    (hRframes : names.length + 3 < R.frames) (hRlocals : (rest.map fun v => v.category).sum + (13 * (names.length + 1) + 42) ≤ R.locals) (hRcells : cells + 1 ≤ R.cells) (hRslots : slots + 6 ≤ R.slots) (hlocks : meth.locks = false)
    (hx : ∀ t : State, s.vm.Alike t.vm → H.size ≤ t.heap.size → (∀ q : Nat, q < H.size → t.heap[q]? = H[q]?) → XC cls s t)
    (hf : ∀ z ∈ locs, free z.base) (hc : cells + 1 ≤ mc) (hs : slots + 6 ≤ ms) :
    W p l e R s m args below meth c H locs cells slots (vx_MQ below Qc XC args s mc ms free) (F0 m pc ls rest) := by
  intro T hT X
  have htr : e.platform.stackTraces = false := (show e.platform.stackTraces = l.stackTraces by rw [X.admits.platform]).trans hl
  have Y := vx_rebase X (R' := { frames := R.frames, locals := R.locals, cells := 1, slots := 6 }) (Nat.le_refl _) (Nat.le_refl _) hRcells hRslots
  obtain ⟨s', hA⟩ : ∃ z, z = (T.setVm s.vm).setFrames (.invoking m args :: below) := ⟨_, rfl⟩
  rw [← hA] at Y
  have hvm : s'.vm = s.vm := by rw [hA]; rfl
  have hhp : s'.heap = H := by rw [hA]; exact hT
  have hW0 : s.WarmedH s'.vm := by rw [hvm]; exact State.WarmedH.refl s
  have hat' : ∀ w ∈ vx_at0 own ic cls names, w.before args s' = true := fun w hw => vx_ot_at hW0 hvm.symm (hgood w (List.mem_cons_of_mem _ (List.mem_cons_of_mem _ hw))) (hat w hw)
  have hk' : (Cond.classLink own ik cls).before args s' = true := vx_ot_at hW0 hvm.symm (hgood _ List.mem_cons_self) hk
  have hini' : (Cond.initialized cls).before args s' = true := vx_ot_at hW0 hvm.symm (hgood _ (List.mem_cons_of_mem _ List.mem_cons_self)) hini
  have hU' : vx_Zq Bundle.tN "UNASSIGNED_STACK" Bundle.steD A s' s'.heap := by rw [hhp]; exact vx_Zq.moved hW0.alike (hU.kept hS.2.1)
  have hN' : vx_Zq Bundle.tN "SUPPRESSED_SENTINEL" Bundle.listD A s' s'.heap := by rw [hhp]; exact vx_Zq.moved hW0.alike (hN.kept hS.2.1)
  have h : ∀ w ∈ Bundle.ownAtoms0 own ic cls names, w.before args s' = true := vx_own hat' (vx_isRefq hU'.1) (vx_isRefq hN'.1) hU'.2.word hN'.2.word
  have hown' : s'.vm.findClass own = some m.cls := by rw [hvm]; exact hown
  have hins : (Cond.instantiable cls 6).before args s' = true := h _ (by simp [Bundle.ownAtoms0])
  obtain ⟨vm₁, cX, kX, hfX, hkX, -, -, X₁, st1⟩ := Y.newCold hexec (own := own) (C := cls) (index := ik) (n := 6) hown' hk' hins hini'
    (g := F0 m pc ls rest) rfl (by rw [hb]; exact d0) (Nat.le_refl _) (Nat.le_refl _)
  generalize hT1 : (T.setVm vm₁).pushCell { cls := cX, slots := kX.instanceTypes.map defaultValue, vm := .none } = T1 at X₁ st1
  have hcat : (Value.ref T.heap.size).category = 1 := rfl
  have hcellA : T1.heap[T.heap.size]? = some (freshCell cX kX) := by rw [← hT1]; exact State.heap_pushCell_size _ _
  have d3' : decode c.code (pc + 3) = .ok (.dup, 1) := by rw [hb]; exact d3
  obtain ⟨U, hsteps, hrun, hend, hW, hsame, ce, hce, hO⟩ := X₁.ctorThrow0 hexec htr (own := own) (cls := cls) (names := names) (ic := ic) hown' hcls hnames h (fun x hx => nomatch hx) hfX hkX hcellA (by rw [hhp, hT]; exact Nat.le_refl _)
    (g := { method := m, pc := pc + 4, locals := ls, stack := .ref T.heap.size :: .ref T.heap.size :: rest, locked := none }) rfl hsize rfl rfl (rest := rest) rfl
    (by rw [hb]; exact d4) (by rw [hb]; exact d7) hout hRframes (by simp only [List.map_cons, List.sum_cons, hcat]; omega) hlocks
  obtain ⟨f1, f2⟩ := vx_frame hsame
  rw [hhp] at f1 f2
  have hWs : s.WarmedH U.vm := State.WarmedH.trans hW0 hW
  have hcl : s.vm.findClass cls = some ce.cls := by
    have h9 := hO.cls
    rw [hvm] at h9
    exact h9
  have hall : s.sameButNew ({ U with vm := s.vm } : State) locs mc ms := by
    subst hA
    obtain ⟨e1, e2⟩ := hsame
    rw [State.setFrames_setFrames] at e1
    have h2 : (T.setVm s.vm).sameButNew ({ U with vm := s.vm } : State) [] (0 + 1) (0 + 6) := ⟨e1, e2⟩
    have h3 := X.same.trans h2
    rw [List.append_nil] at h3
    exact h3.mono hc hs
  refine ⟨U, ?_, .threw T.heap.size, hrun, hend, Or.inr ⟨T.heap.size, rfl, cls, ce, locs, hx U hWs.alike f1 (fun q hq => f2 q hq (fun z hz => nomatch hz)), hce, hO.vm, hcl, hWs, hall, hf⟩⟩
  refine st1 _ ?_
  show Steps p.tables e below (T1.setTop { method := m, pc := pc + 3, locals := ls, stack := .ref T.heap.size :: rest, locked := none }) _
  jvm_step X₁.here [X₁.here.top, hexec, d3', Value.category]
  exact hsteps
/-- 'throw new E("text")': new; dup; ldc; invokespecial; athrow -/
theorem vx_throwS {cc : ByteArray} {pc : Nat} (hexec : p.tables.exec = Jvm.exec) (hb : c.code = cc) (hl : l.stackTraces = false) {own cls text : String} {names : List String} {ik is ic mc ms sa : Nat} {A : Nat → Prop}
    (hown : s.vm.findClass own = some m.cls) (hcls : Bundle.fit cls = true) (hnames : ∀ n ∈ names, Bundle.fit n = true)
    (hk : (Cond.classLink own ik cls).before args s = true) (hini : (Cond.initialized cls).before args s = true) (hstr : vk_R own is text sa s) (hat : ∀ w ∈ vx_atS own ic cls names, w.before args s = true)
    (hgood : ∀ w ∈ Cond.classLink own ik cls :: Cond.initialized cls :: vx_atS own ic cls names, vx_ot w = true)
    (hU : vx_Zq Bundle.tN "UNASSIGNED_STACK" Bundle.steD A s s.heap) (hN : vx_Zq Bundle.tN "SUPPRESSED_SENTINEL" Bundle.listD A s s.heap) (hS : va_S A s.heap H locs) (hsize : ls.size = c.maxLocals)
    (d0 : decode cc pc = .ok (.new ik, 3)) (d3 : decode cc (pc + 3) = .ok (.dup, 1)) (d4 : decode cc (pc + 4) = .ok (.ldc is, 2)) (d6 : decode cc (pc + 6) = .ok (.invokespecial ic, 3)) (d9 : decode cc (pc + 9) = .ok (.athrow, 1))
    (hout : ∀ x ∈ c.exceptionTable.toList, covers x (pc + 9) = false)
    (hRframes : names.length + 3 < R.frames) (hRlocals : (rest.map fun v => v.category).sum + (13 * (names.length + 1) + 43) ≤ R.locals) (hRcells : cells + 1 ≤ R.cells) (hRslots : slots + 6 ≤ R.slots) (hlocks : meth.locks = false)
    (hx : ∀ t : State, s.vm.Alike t.vm → H.size ≤ t.heap.size → (∀ q : Nat, q < H.size → t.heap[q]? = H[q]?) → XC cls s t)
    (hf : ∀ z ∈ locs, free z.base) (hc : cells + 1 ≤ mc) (hs : slots + 6 ≤ ms) :
    W p l e R s m args below meth c H locs cells slots (vx_MQ below Qc XC args s mc ms free) (F0 m pc ls rest) := by
  intro T hT X
  have htr : e.platform.stackTraces = false := (show e.platform.stackTraces = l.stackTraces by rw [X.admits.platform]).trans hl
  have Y := vx_rebase X (R' := { frames := R.frames, locals := R.locals, cells := 1, slots := 6 }) (Nat.le_refl _) (Nat.le_refl _) hRcells hRslots
  obtain ⟨s', hA⟩ : ∃ z, z = (T.setVm s.vm).setFrames (.invoking m args :: below) := ⟨_, rfl⟩
  rw [← hA] at Y
  have hvm : s'.vm = s.vm := by rw [hA]; rfl
  have hhp : s'.heap = H := by rw [hA]; exact hT
  have hW0 : s.WarmedH s'.vm := by rw [hvm]; exact State.WarmedH.refl s
  have hat' : ∀ w ∈ vx_atS own ic cls names, w.before args s' = true := fun w hw => vx_ot_at hW0 hvm.symm (hgood w (List.mem_cons_of_mem _ (List.mem_cons_of_mem _ hw))) (hat w hw)
  have hk' : (Cond.classLink own ik cls).before args s' = true := vx_ot_at hW0 hvm.symm (hgood _ List.mem_cons_self) hk
  have hini' : (Cond.initialized cls).before args s' = true := vx_ot_at hW0 hvm.symm (hgood _ (List.mem_cons_of_mem _ List.mem_cons_self)) hini
  have hU' : vx_Zq Bundle.tN "UNASSIGNED_STACK" Bundle.steD A s' s'.heap := by rw [hhp]; exact vx_Zq.moved hW0.alike (hU.kept hS.2.1)
  have hN' : vx_Zq Bundle.tN "SUPPRESSED_SENTINEL" Bundle.listD A s' s'.heap := by rw [hhp]; exact vx_Zq.moved hW0.alike (hN.kept hS.2.1)
  have h : ∀ w ∈ Bundle.ownAtoms own ic cls names, w.before args s' = true := vx_own hat' (vx_isRefq hU'.1) (vx_isRefq hN'.1) hU'.2.word hN'.2.word
  have hown' : s'.vm.findClass own = some m.cls := by rw [hvm]; exact hown
  have hins : (Cond.instantiable cls 6).before args s' = true := h _ (by simp [Bundle.ownAtoms])
  obtain ⟨vm₁, cX, kX, hfX, hkX, -, -, X₁, st1⟩ := Y.newCold hexec (own := own) (C := cls) (index := ik) (n := 6) hown' hk' hins hini'
    (g := F0 m pc ls rest) rfl (by rw [hb]; exact d0) (Nat.le_refl _) (Nat.le_refl _)
  generalize hT1 : (T.setVm vm₁).pushCell { cls := cX, slots := kX.instanceTypes.map defaultValue, vm := .none } = T1 at X₁ st1
  have hcat : (Value.ref T.heap.size).category = 1 := rfl
  have hcellA : T1.heap[T.heap.size]? = some (freshCell cX kX) := by rw [← hT1]; exact State.heap_pushCell_size _ _
  have d3' : decode c.code (pc + 3) = .ok (.dup, 1) := by rw [hb]; exact d3
  have d4' : decode c.code (pc + 4) = .ok (.ldc is, 2) := by rw [hb]; exact d4
  have hstr' : vk_R own is text sa s' := vk_R.warm hW0 hstr
  obtain ⟨U, hsteps, hrun, hend, hW, hsame, ce, hce, hO⟩ := X₁.ctorThrowS hexec htr (own := own) (cls := cls) (names := names) (ic := ic) hown' hcls hnames h (fun x hx => nomatch hx) hfX hkX hcellA (by rw [hhp, hT]; exact Nat.le_refl _) (msg := .ref sa) rfl
    (g := { method := m, pc := pc + 6, locals := ls, stack := .ref sa :: .ref T.heap.size :: .ref T.heap.size :: rest, locked := none }) rfl hsize rfl rfl (rest := rest) rfl
    (by rw [hb]; exact d6) (by rw [hb]; exact d9) hout hRframes (by simp only [List.map_cons, List.sum_cons, hcat]; omega) hlocks
  obtain ⟨f1, f2⟩ := vx_frame hsame
  rw [hhp] at f1 f2
  have hWs : s.WarmedH U.vm := State.WarmedH.trans hW0 hW
  have hcl : s.vm.findClass cls = some ce.cls := by
    have h9 := hO.cls
    rw [hvm] at h9
    exact h9
  have hall : s.sameButNew ({ U with vm := s.vm } : State) locs mc ms := by
    subst hA
    obtain ⟨e1, e2⟩ := hsame
    rw [State.setFrames_setFrames] at e1
    have h2 : (T.setVm s.vm).sameButNew ({ U with vm := s.vm } : State) [] (0 + 1) (0 + 6) := ⟨e1, e2⟩
    have h3 := X.same.trans h2
    rw [List.append_nil] at h3
    exact h3.mono hc hs
  refine ⟨U, ?_, .threw T.heap.size, hrun, hend, Or.inr ⟨T.heap.size, rfl, cls, ce, locs, hx U hWs.alike f1 (fun q hq => f2 q hq (fun z hz => nomatch hz)), hce, hO.vm, hcl, hWs, hall, hf⟩⟩
  refine st1 _ ?_
  show Steps p.tables e below (T1.setTop { method := m, pc := pc + 3, locals := ls, stack := .ref T.heap.size :: rest, locked := none }) _
  jvm_step X₁.here [X₁.here.top, hexec, d3', Value.category]
  exact X₁.ldcString hexec (own := own) (text := text) (index := is) (a := sa) hown' hstr'.1 hstr'.2
    (g := { method := m, pc := pc + 4, locals := ls, stack := .ref T.heap.size :: .ref T.heap.size :: rest, locked := none }) rfl d4' _ hsteps
/-- 'throw new E("text")', the text by a wide index -/
theorem vx_throwSW {cc : ByteArray} {pc : Nat} (hexec : p.tables.exec = Jvm.exec) (hb : c.code = cc) (hl : l.stackTraces = false) {own cls text : String} {names : List String} {ik is ic mc ms sa : Nat} {A : Nat → Prop}
    (hown : s.vm.findClass own = some m.cls) (hcls : Bundle.fit cls = true) (hnames : ∀ n ∈ names, Bundle.fit n = true)
    (hk : (Cond.classLink own ik cls).before args s = true) (hini : (Cond.initialized cls).before args s = true) (hstr : vk_R own is text sa s) (hat : ∀ w ∈ vx_atS own ic cls names, w.before args s = true)
    (hgood : ∀ w ∈ Cond.classLink own ik cls :: Cond.initialized cls :: vx_atS own ic cls names, vx_ot w = true)
    (hU : vx_Zq Bundle.tN "UNASSIGNED_STACK" Bundle.steD A s s.heap) (hN : vx_Zq Bundle.tN "SUPPRESSED_SENTINEL" Bundle.listD A s s.heap) (hS : va_S A s.heap H locs) (hsize : ls.size = c.maxLocals)
    (d0 : decode cc pc = .ok (.new ik, 3)) (d3 : decode cc (pc + 3) = .ok (.dup, 1)) (d4 : decode cc (pc + 4) = .ok (.ldc_w is, 3)) (d7 : decode cc (pc + 7) = .ok (.invokespecial ic, 3)) (d10 : decode cc (pc + 10) = .ok (.athrow, 1))
    (hout : ∀ x ∈ c.exceptionTable.toList, covers x (pc + 10) = false)
    (hRframes : names.length + 3 < R.frames) (hRlocals : (rest.map fun v => v.category).sum + (13 * (names.length + 1) + 43) ≤ R.locals) (hRcells : cells + 1 ≤ R.cells) (hRslots : slots + 6 ≤ R.slots) (hlocks : meth.locks = false)
    (hx : ∀ t : State, s.vm.Alike t.vm → H.size ≤ t.heap.size → (∀ q : Nat, q < H.size → t.heap[q]? = H[q]?) → XC cls s t)
    (hf : ∀ z ∈ locs, free z.base) (hc : cells + 1 ≤ mc) (hs : slots + 6 ≤ ms) :
    W p l e R s m args below meth c H locs cells slots (vx_MQ below Qc XC args s mc ms free) (F0 m pc ls rest) := by
  intro T hT X
  have htr : e.platform.stackTraces = false := (show e.platform.stackTraces = l.stackTraces by rw [X.admits.platform]).trans hl
  have Y := vx_rebase X (R' := { frames := R.frames, locals := R.locals, cells := 1, slots := 6 }) (Nat.le_refl _) (Nat.le_refl _) hRcells hRslots
  obtain ⟨s', hA⟩ : ∃ z, z = (T.setVm s.vm).setFrames (.invoking m args :: below) := ⟨_, rfl⟩
  rw [← hA] at Y
  have hvm : s'.vm = s.vm := by rw [hA]; rfl
  have hhp : s'.heap = H := by rw [hA]; exact hT
  have hW0 : s.WarmedH s'.vm := by rw [hvm]; exact State.WarmedH.refl s
  have hat' : ∀ w ∈ vx_atS own ic cls names, w.before args s' = true := fun w hw => vx_ot_at hW0 hvm.symm (hgood w (List.mem_cons_of_mem _ (List.mem_cons_of_mem _ hw))) (hat w hw)
  have hk' : (Cond.classLink own ik cls).before args s' = true := vx_ot_at hW0 hvm.symm (hgood _ List.mem_cons_self) hk
  have hini' : (Cond.initialized cls).before args s' = true := vx_ot_at hW0 hvm.symm (hgood _ (List.mem_cons_of_mem _ List.mem_cons_self)) hini
  have hU' : vx_Zq Bundle.tN "UNASSIGNED_STACK" Bundle.steD A s' s'.heap := by rw [hhp]; exact vx_Zq.moved hW0.alike (hU.kept hS.2.1)
  have hN' : vx_Zq Bundle.tN "SUPPRESSED_SENTINEL" Bundle.listD A s' s'.heap := by rw [hhp]; exact vx_Zq.moved hW0.alike (hN.kept hS.2.1)
  have h : ∀ w ∈ Bundle.ownAtoms own ic cls names, w.before args s' = true := vx_own hat' (vx_isRefq hU'.1) (vx_isRefq hN'.1) hU'.2.word hN'.2.word
  have hown' : s'.vm.findClass own = some m.cls := by rw [hvm]; exact hown
  have hins : (Cond.instantiable cls 6).before args s' = true := h _ (by simp [Bundle.ownAtoms])
  obtain ⟨vm₁, cX, kX, hfX, hkX, -, -, X₁, st1⟩ := Y.newCold hexec (own := own) (C := cls) (index := ik) (n := 6) hown' hk' hins hini'
    (g := F0 m pc ls rest) rfl (by rw [hb]; exact d0) (Nat.le_refl _) (Nat.le_refl _)
  generalize hT1 : (T.setVm vm₁).pushCell { cls := cX, slots := kX.instanceTypes.map defaultValue, vm := .none } = T1 at X₁ st1
  have hcat : (Value.ref T.heap.size).category = 1 := rfl
  have hcellA : T1.heap[T.heap.size]? = some (freshCell cX kX) := by rw [← hT1]; exact State.heap_pushCell_size _ _
  have d3' : decode c.code (pc + 3) = .ok (.dup, 1) := by rw [hb]; exact d3
  have d4' : decode c.code (pc + 4) = .ok (.ldc_w is, 3) := by rw [hb]; exact d4
  have hstr' : vk_R own is text sa s' := vk_R.warm hW0 hstr
  obtain ⟨U, hsteps, hrun, hend, hW, hsame, ce, hce, hO⟩ := X₁.ctorThrowS hexec htr (own := own) (cls := cls) (names := names) (ic := ic) hown' hcls hnames h (fun x hx => nomatch hx) hfX hkX hcellA (by rw [hhp, hT]; exact Nat.le_refl _) (msg := .ref sa) rfl
    (g := { method := m, pc := pc + 7, locals := ls, stack := .ref sa :: .ref T.heap.size :: .ref T.heap.size :: rest, locked := none }) rfl hsize rfl rfl (rest := rest) rfl
    (by rw [hb]; exact d7) (by rw [hb]; exact d10) hout hRframes (by simp only [List.map_cons, List.sum_cons, hcat]; omega) hlocks
  obtain ⟨f1, f2⟩ := vx_frame hsame
  rw [hhp] at f1 f2
  have hWs : s.WarmedH U.vm := State.WarmedH.trans hW0 hW
  have hcl : s.vm.findClass cls = some ce.cls := by
    have h9 := hO.cls
    rw [hvm] at h9
    exact h9
  have hall : s.sameButNew ({ U with vm := s.vm } : State) locs mc ms := by
    subst hA
    obtain ⟨e1, e2⟩ := hsame
    rw [State.setFrames_setFrames] at e1
    have h2 : (T.setVm s.vm).sameButNew ({ U with vm := s.vm } : State) [] (0 + 1) (0 + 6) := ⟨e1, e2⟩
    have h3 := X.same.trans h2
    rw [List.append_nil] at h3
    exact h3.mono hc hs
  refine ⟨U, ?_, .threw T.heap.size, hrun, hend, Or.inr ⟨T.heap.size, rfl, cls, ce, locs, hx U hWs.alike f1 (fun q hq => f2 q hq (fun z hz => nomatch hz)), hce, hO.vm, hcl, hWs, hall, hf⟩⟩
  refine st1 _ ?_
  show Steps p.tables e below (T1.setTop { method := m, pc := pc + 3, locals := ls, stack := .ref T.heap.size :: rest, locked := none }) _
  jvm_step X₁.here [X₁.here.top, hexec, d3', Value.category]
  exact X₁.ldcStringW hexec (own := own) (text := text) (index := is) (a := sa) hown' hstr'.1 hstr'.2
    (g := { method := m, pc := pc + 4, locals := ls, stack := .ref T.heap.size :: .ref T.heap.size :: rest, locked := none }) rfl d4' _ hsteps
end Ends
section Bodies
variable {l : Launch}
theorem vx_ofW {y : MethodName} {ws ws' : List Cond} {rm : Room} {Pc : Array Value → State → Prop} {Qc : Array Value → State → Outcome → State → Prop} {XC : String → State → State → Prop} {mc ms : Nat} {free : Addr → Prop} {cc : ByteArray} {maxL : Nat} {ret : Option FieldType}
    (hy : plainName y.cls = true) (hw : ws = Cond.code y cc maxL ret :: ws')
    (body : ∀ p e s m args below meth c s₁, BodyLoose p l y (headSpec ws rm) cc maxL ret e s m args below meth c s₁ → c.maxLocals = maxL → (∀ x ∈ c.exceptionTable.toList, False) → Pc args s →
      W p l e (headSpec ws rm).room s m args below meth c s.heap [] 0 0 (vx_MQ below Qc XC args s mc ms free) (entryFrame m args maxL)) : vx_Met l y ws rm Pc Qc XC mc ms free := by
  refine MetFree.of_bodyS (code := cc) (maxLocals := maxL) (ret := ret) hy ?_ ?_
  · intro args s m h hn
    obtain ⟨meth, c, h1, h2, h3, h4, h5, h6, -, -⟩ := Cond.code_spec hn (atoms_spec (ws := ws) h _ (by rw [hw]; exact List.mem_cons_self))
    exact ⟨meth, c, h1, h2, h3, h4, h5, h6⟩
  · intro p e s m args below meth c s₁ B hml hP _
    have hh0 : s₁.heap = s.heap := by rw [B.state]; rfl
    have ht : ∀ x ∈ c.exceptionTable.toList, False := by
      obtain ⟨meth9, c9, h1, h2, -, -, -, -, h7, -⟩ := Cond.code_spec B.named (atoms_spec (ws := ws) B.pre _ (by rw [hw]; exact List.mem_cons_self))
      cases Option.some.inj (h1.symm.trans B.method)
      cases Option.some.inj (h2.symm.trans (Stand.of_body B).code)
      intro x hx
      rw [Array.isEmpty_iff.mp h7] at hx
      cases hx
    obtain ⟨t, a1, o, b1, b2, b3⟩ := body p e s m args below meth c s₁ B hml ht hP s₁ hh0 (Stand.of_body B)
    exact ⟨t, o, a1, b1, b2, b3⟩
/-- the table of a body with handlers -/
theorem vx_table {p : Program} {x y : MethodName} {S : Spec} {cc bytes : ByteArray} {maxL maxL' : Nat} {ret ret' : Option FieldType} {e : Env} {s s₁ : State} {m : MethodId} {args : Array Value} {below : List Frame} {meth : Method} {c : Code} {hh : List (Nat × Nat × Nat × Nat)}
    (B : BodyLoose p l y S cc maxL ret e s m args below meth c s₁) (h : (Cond.codeWith y bytes maxL' ret' hh).before args s = true) : c.exceptionTable.toList = tableOf hh := by
  obtain ⟨m9, meth9, c9, hn9, h1, h2, -, -, h6, -⟩ := Cond.codeWith_spec h
  cases Option.some.inj (hn9.symm.trans B.named)
  cases Option.some.inj (h1.symm.trans B.method)
  cases Option.some.inj (h2.symm.trans (Stand.of_body B).code)
  rw [← h6, table_eq]
end Bodies
end VXA
/-! ===== END ===== -/
/-! ===== BEGIN a static call of a method with an exception table ===== -/
section VXS
variable {p : Program} {l : Launch} {e : Env} {R : Room} {s : State} {m : MethodId} {args : Array Value} {below : List Frame} {meth : Method} {c : Code} {T : State} {H : Heap} {locs : List Loc} {cells slots : Nat}
abbrev vx_CSW (R : Room) (s : State) (args : Array Value) (own : String) (index : Nat) (y : MethodName) (bytes : ByteArray) (maxL : Nat) (ret : Option FieldType) (hh : List (Nat × Nat × Nat × Nat)) (ws : List Cond) (rm : Room) (mc ms n : Nat) : Prop :=
  (rm.cells = mc ∧ rm.slots = ms ∧ rm.frames + 1 ≤ R.frames ∧ 8 + (maxL + 11) + rm.locals ≤ R.locals ∧ (∀ w ∈ ws, ∀ (a' : Array Value) (U : State), s.WarmedH U.vm → w.before a' U = true) ∧ Cond.codeWith y bytes maxL ret hh ∈ ws) ∧
  (Cond.codeWith y bytes maxL ret hh).before args s = true ∧ (Cond.initialized y.cls).before args s = true ∧ (y.cls ≠ "java/lang/invoke/MethodHandle" ∧ y.cls ≠ "java/lang/invoke/VarHandle") ∧
  (∀ sig, parseMethodDescriptor y.desc = some sig → n = sig.parameters.length) ∧ (Cond.methodLink own index y).before args s = true ∧ (Cond.static y).before args s = true
theorem vx_cwSW {own : String} {index maxL mc ms : Nat} {y : MethodName} {bytes : ByteArray} {ret : Option FieldType} {hh : List (Nat × Nat × Nat × Nat)} {Ts ws ws' : List Cond} {rm : Room} (n : Nat) (ht : ∀ w ∈ Ts, w.before args s = true) (hT : GoodIn Ts (va_wsS own index y ws)) (hw : ws = Cond.codeWith y bytes maxL ret hh :: ws') (hrc : rm.cells = mc) (hrs : rm.slots = ms)
    (hd : y.cls ≠ "java/lang/invoke/MethodHandle" ∧ y.cls ≠ "java/lang/invoke/VarHandle" ∧ (parseMethodDescriptor y.desc).map (fun d => d.parameters.length) = some n) (hR : rm.frames + 1 ≤ R.frames ∧ 8 + (maxL + 11) + rm.locals ≤ R.locals) :
    vx_CSW R s args own index y bytes maxL ret hh ws rm mc ms n := by
  have ok : ∀ w ∈ va_wsS own index y ws, w.before args s = true := fun w h => ht w (hT w h).1
  have hG : GoodIn Ts ws := fun w h => hT w (by unfold va_wsS; exact List.mem_append_right _ h)
  have hc : Cond.codeWith y bytes maxL ret hh ∈ ws := by rw [hw]; exact List.mem_cons_self
  refine ⟨⟨hrc, hrs, hR.1, hR.2, pay_in ht hG, hc⟩, ht _ (hG _ hc).1, ok _ (by simp [va_wsS]), ⟨hd.1, hd.2.1⟩, fun sig h => ?_, ok _ (by simp [va_wsS]), ok _ (by simp [va_wsS])⟩
  have h2 := hd.2.2
  rw [h] at h2
  exact (Option.some.inj h2).symm
theorem vx_callSW (X : Stand p l e R s m args below meth c T locs cells slots) (hexec : p.tables.exec = Jvm.exec) {own : String} {index : Nat} {y : MethodName} {bytes : ByteArray} {maxL : Nat} {ret : Option FieldType} {hh : List (Nat × Nat × Nat × Nat)}
    (hown : s.vm.findClass own = some m.cls) (hlink : (Cond.methodLink own index y).before args s = true) (hstat : (Cond.static y).before args s = true) (hinit : (Cond.initialized y.cls).before args s = true)
    (hcode : (Cond.codeWith y bytes maxL ret hh).before args s = true) (hy : y.cls ≠ "java/lang/invoke/MethodHandle" ∧ y.cls ≠ "java/lang/invoke/VarHandle")
    {W9 : Nat} {Pre : Pt → Array Value → Prop} {Post : Pt → Array Value → Option Value → Pt → Prop} (hK : Back l R p e below s args y 3 W9 Pre Post)
    {g : JFrame} (hg : g.method = m) (hsize : g.locals.size = c.maxLocals) {argsL rest : List Value} (hlen : ∀ sig, parseMethodDescriptor y.desc = some sig → argsL.length = sig.parameters.length)
    (hstack : g.stack = argsL.reverse ++ rest) (hW : 2 * g.monitorRoom + (rest.map fun v => v.category).sum ≤ W9) (hdg : decode c.code g.pc = .ok (.invokestatic index, 3))
    (hpre : ∀ vm₁, s.WarmedH vm₁ → Pre ⟨T.setVm vm₁, locs, cells, slots⟩ argsL.toArray) :
    ∃ (v : Option Value) (vm₁ : Vm) (B : Pt), s.WarmedH vm₁ ∧ Stand p l e R s m args below meth c B.U B.locs B.cells B.slots ∧ Post ⟨T.setVm vm₁, locs, cells, slots⟩ argsL.toArray v B ∧
      ∀ target, Steps p.tables e below (B.U.setTop { g with pc := g.pc + 3, stack := v.toList ++ rest }) target → Steps p.tables e below (T.setTop g) target := by
  obtain ⟨mk, methM, cM, hnamed, hmethM, -, -, -, -, -, -, hsigM⟩ := Cond.codeWith_spec hcode
  have hstatic : methM.isStatic = true := Cond.static_spec hnamed hmethM hstat
  obtain ⟨kP, hkP, -⟩ := className_of_methodNamed hnamed
  have hinitP : kP.init = .initialized := Cond.initialized_spec (findClass_of_methodNamed hnamed) hkP hinit
  obtain ⟨vm₁, X₁, hstep₁⟩ := X.invokestatic hexec hown hlink hnamed hmethM hstatic hkP hinitP hy (g := g) hg (argsL := argsL) (rest := rest) (hlen _ hsigM) hstack hdg
  obtain ⟨v, B, X', hpost, hsteps⟩ := hK m meth c ⟨T.setVm vm₁, locs, cells, slots⟩ { g with stack := rest } (.invokestatic index) mk argsL.toArray X₁ hg hsize hdg hW (X₁.named hnamed) (hpre vm₁ X₁.warmed)
  exact ⟨v, vm₁, B, X₁.warmed, X', hpost, fun target h => hstep₁ _ fun acts => by rw [doInvoke_state]; exact hsteps.trans h⟩
theorem vx_runSW {y : MethodName} {bytes cc : ByteArray} {maxL nL mc ms n index : Nat} {ret : Option FieldType} {hh : List (Nat × Nat × Nat × Nat)} {ws : List Cond} {rm : Room} {Pc : Array Value → State → Prop} {Qc : Array Value → State → Outcome → State → Prop} {free : Addr → Prop} {Ts : List Cond} {own : String} {As rest : List Value} {g : JFrame}
    (S : CallFix p m c cc nL s args Ts own) (hM : Met l y ws rm Pc Qc mc ms free) (cw : vx_CSW R s args own index y bytes maxL ret hh ws rm mc ms n) (hp : PreS s H Pc As)
    (hg : g.method = m) (hn : As.length = n) (hsize : g.locals.size = nL) (hstack : g.stack = As.reverse ++ rest) (hW : 2 * g.monitorRoom + (rest.map fun v => v.category).sum ≤ 8) (hdg : decode cc g.pc = .ok (.invokestatic index, 3)) (hf : cells + mc ≤ R.cells ∧ slots + ms ≤ R.slots) :
    va_Run p l e R s m args below meth c H locs cells slots mc ms g rest (Qc As.toArray) (free) := by
  obtain ⟨⟨hrc, hrs, hfr, hlo, hws, hcw⟩, hcode, hini, hy, hlen, hl, hstt⟩ := cw
  have hK : Back l R p e below s args y 3 8 (PreOf R mc ms Pc) (PostOf Qc mc ms free) := va_backW (hh := hh) (bytes := bytes) (maxL := maxL) (ret := ret) hM hp.1 hrc hrs hfr hlo hws hcw (fun a' U hW => word_at hW (Or.inl (by first | rfl | simp [Cond.onTables, Cond.keeps, Cond.steady])) hini)
  obtain ⟨hx, hb, hml, ho, -⟩ := S
  intro T hT X
  obtain ⟨v, vm₁, ⟨U', l2, c2, s2⟩, hW₁, X', ⟨g', mk, t, L, e1, e2, hq, h1, hL, h2, h3⟩, st⟩ := vx_callSW X hx (hh := hh) (bytes := bytes) (maxL := maxL) (ret := ret) ho hl hstt hini hcode hy hK hg (hsize.trans hml.symm) (argsL := As) (rest := rest) (fun sig h => hn.trans (hlen sig h)) hstack hW (by rw [hb]; exact hdg)
    (fun vm₁ hW₁ => ⟨hf.1, hf.2, hp.2 (T.setVm vm₁) hT hW₁⟩)
  dsimp only [Pt.U, Pt.locs, Pt.cells, Pt.slots] at X' e1 e2 h1 h2 h3 st
  subst h1; subst h2; subst h3
  exact ⟨v, (T.setVm vm₁).calling g' mk As.toArray, t, U', L, hT, X', hL, e1, e2, hq, st⟩
/-- not caught here, past rows that name other classes: it goes on to the caller -/
theorem vx_outP {p : Program} {l : Launch} {e : Env} {R : Room} {s : State} {m : MethodId} {args : Array Value} {below : List Frame} {meth : Method} {c : Code} {H : Heap} {locs : List Loc} {cells slots : Nat} {free : Addr → Prop} {ls : Array Slot} {rest : List Value} {Qc : Array Value → State → Outcome → State → Prop} {XC : String → State → State → Prop}
    {pc : Nat} {own E : String} {ce : Cell} {q : Addr} {mc ms : Nat} (hown : s.vm.findClass own = some m.cls) (hlocks : meth.locks = false)
    (hpass : ∀ z ∈ c.exceptionTable.toList, covers z pc = false ∨ (z.catchType ≠ 0 ∧ ∃ nm : String, (Cond.classLink own z.catchType nm).before args s = true ∧ va_Nc E nm s)) (hcell : H[q]? = some ce) (hv : ce.vm = .none) (hcl : s.vm.findClass E = some ce.cls)
    (hx : ∀ t : State, t.heap = H → s.vm.Alike t.vm → XC E s t) (hf : ∀ z ∈ locs, free z.base) (hc : cells ≤ mc) (hs : slots ≤ ms) :
    vx_W p l e R s m args below meth c H locs cells slots (vx_MQ below Qc XC args s mc ms free) (F0 m pc ls rest) q := by
  intro T hT X
  have hpl : e.platform.magicAccessors = ({} : Platform).magicAccessors := by rw [X.admits.platform]
  obtain ⟨vm', hW', X', st⟩ := X.outThrough hlocks q (g := F0 m pc ls rest) rfl rfl rfl (cell := ce) (by rw [hT]; exact hcell) (by rw [hv]; rfl)
    (by obtain ⟨k9, h9, -⟩ := Vm.findClass_spec hcl; exact ⟨k9, h9⟩) (fun z hz => by
      rcases hpass z hz with h | ⟨hz0, nm, hl1, hn1⟩
      · exact Or.inl h
      · obtain ⟨c6, hc6, hcl6⟩ := Cond.classLink_spec hown hl1 e.platform hpl
        obtain ⟨a8, b8, h1, h2, h3⟩ := hn1
        cases Option.some.inj (h1.symm.trans hcl)
        cases Option.some.inj (h2.symm.trans hc6)
        exact Or.inr ⟨hz0, _, hcl6, h3⟩)
  obtain ⟨g₀, hfr⟩ := X'.frames_eq
  have hcell9 : ((T.setVm vm').setFrames (.throwing q :: below)).heap[q]? = some ce := by
    show T.heap[q]? = some ce
    rw [hT]; exact hcell
  have hend : Ended ((T.setVm vm').setFrames (.throwing q :: below)) below (.threw q) := State.frames_setFrames _ (State.cur_lt_of_frames hfr)
  refine ⟨(T.setVm vm').setFrames (.throwing q :: below), ?_, .threw q, X'.here.running, hend, Or.inr ⟨q, rfl, E, ce, locs, hx _ hT (X'.ends _).1.alike, hcell9, hv, hcl, (X'.ends _).1, (X'.ends _).2.mono hc hs, hf⟩⟩
  rw [X.pushThrowing_eq]
  exact st
/-- a thing of a world lies in the heap -/
theorem vx_lt {D : va_G} {cl : List vw_C} {ws : va_W} {H1 : Heap} (h : va_P D cl ws H1) {k : Nat} {q : Nat × va_E} (hk : ws[k]? = some q) : q.1 < H1.size := (h k q hk).lt
end VXS
/-! ===== END ===== -/
/-! ===== BEGIN methods with a table of their own: called by a name, returning or throwing ===== -/
section VXH
/-! vx_backW, vx_callVX, vx_callSX, vx_callVW, vx_runVW, vx_runVX, vx_runSX, vx_ofWH follow the same proofs as their sisters above (Free/Laws.lean, Shelf42/LK1.lean); vx_outP calls Shelf42/NT130.lean (outThrough). -/
section
variable {l : Launch} {R : Room} {p : Program} {e : Env} {below : List Frame} {s : State} {sargs : Array Value} {y : MethodName} {len W9 : Nat}
theorem vx_backW {ws : List Cond} {rm : Room} {Pc : Array Value → State → Prop} {Qc : Array Value → State → Outcome → State → Prop} {XC : String → State → State → Prop} {mc ms : Nat} {free : Addr → Prop} {bytes : ByteArray} {maxL : Nat} {ret : Option FieldType} {hh : List (Nat × Nat × Nat × Nat)}
    (hM : vx_Met l y ws rm Pc Qc XC mc ms free) (hblind : FrameBlind Pc) (hrc : rm.cells = mc) (hrs : rm.slots = ms)
    (hframes : rm.frames + 1 ≤ R.frames) (hlocals : W9 + (maxL + 11) + rm.locals ≤ R.locals)
    (hws : ∀ w ∈ ws, ∀ a' U, s.WarmedH U.vm → w.before a' U = true) (hcode : Cond.codeWith y bytes maxL ret hh ∈ ws) (hinit : ∀ a' U, s.WarmedH U.vm → (Cond.initialized y.cls).before a' U = true) :
    vx_Back l R p e below s sargs y len W9 (PreOf R mc ms Pc) (PostOf Qc mc ms free) (vx_Post XC mc ms free) := by
  intro m meth c A g ig mk a X hg hsize hdg hW hn hp
  have h1 : (headSpec ws rm).pre.before a A.U = true := atoms_intro fun w hw => hws w hw _ _ X.warmed
  have h2 : (Cond.codeWith y bytes maxL ret hh).before a A.U = true := hws _ hcode _ _ X.warmed
  have h3 : (Cond.initialized y.cls).before a A.U = true := hinit _ _ X.warmed
  have h4 : A.cells + (headSpec ws rm).room.cells ≤ R.cells := by rw [show (headSpec ws rm).room.cells = mc from hrc]; exact hp.1
  have h5 : A.slots + (headSpec ws rm).room.slots ≤ R.slots := by rw [show (headSpec ws rm).room.slots = ms from hrs]; exact hp.2.1
  have hPc : Pc a (A.U.calling g mk a) := hblind _ _ _ _ hp.2.2
  obtain ⟨U, Ls, c0, s0⟩ := A
  dsimp only [Pt.U, Pt.locs, Pt.cells, Pt.slots] at h1 h2 h3 h4 h5 X hn hPc ⊢
  obtain ⟨m9, methY, cY, hn9, hmY, hcY, -, hlY, -⟩ := Cond.codeWith_spec h2
  cases Option.some.inj (hn9.symm.trans hn)
  obtain ⟨kY, hkY, -⟩ := className_of_methodNamed hn
  have hinitY : kY.init = .initialized := Cond.initialized_spec (findClass_of_methodNamed hn) hkY h3
  have h : At U g.method c below := by rw [hg]; exact X.here
  have hlocals9 : W9 + (maxL + 11) + (headSpec ws rm).room.locals ≤ R.locals := hlocals
  have happ : (headSpec ws rm).appliesLoose y e.platform (U.calling g mk a) = true :=
    Spec.appliesLoose_calling (g := g) h hdg hn hkY hinitY
      (X.room_calling (g := g) (R' := (headSpec ws rm).room) hsize hmY hcY hframes (by rw [hlY]; omega) h4 h5) h1
  obtain ⟨mid, hmid⟩ := h.above
  have hfr : (U.setTop g).frames = (.java g :: mid) ++ below := by rw [State.frames_setTop' g h.top, hmid]; rfl
  obtain ⟨o, s₂, hsteps, -, hend, hq⟩ := Steps.callFree hM p X.admits X.cas X.clock (acts := []) hfr happ hPc trivial
  have hq' : vx_Q Qc XC mc ms free a (U.calling g mk a) o s₂ := hq
  rw [State.frames_setTop' g h.top] at hend
  obtain ⟨g₀, hg0⟩ := Option.isSome_iff_exists.mp h.top
  obtain ⟨r, hr⟩ := State.topJava?_eq_some.mp hg0
  have hr' : (({ U with heap := s₂.heap, slotsUsed := s₂.slotsUsed } : State).setVm s₂.vm).frames = .java g₀ :: r := hr
  rcases hq' with ⟨hqc, L, hfe, hL⟩ | ⟨q, rfl, E, ce, L, hx, hce, hcv, hcl, hW₂, hsm, hL⟩
  · obtain ⟨⟨v, rfl⟩, hW₂, e2, q2, q3, q4, q5, q6⟩ := id hfe
    have e3 : s₂ = ({ (U.calling g mk a).setFrames s₂.frames with heap := s₂.heap, slotsUsed := s₂.slotsUsed } : State).setVm s₂.vm := by
      have : s₂ = ({ s₂ with vm := (U.calling g mk a).vm } : State).setVm s₂.vm := rfl
      rw [e2] at this
      exact this
    obtain ⟨c₂, i₂, len₂, hc₂, hd₂, hf₂⟩ := hend
    have hW' : U.WarmedH s₂.vm := hW₂
    have hcc : c₂ = c := by
      have h1 : s₂.code? g.method = U.code? g.method := by
        rw [State.code?_eq, State.code?_eq, hW'.alike.method?]
      exact Option.some.inj (hc₂.symm.trans (h1.trans h.code))
    subst hcc
    have hlen : len₂ = len := by rw [hdg] at hd₂; cases hd₂; rfl
    subst hlen
    have hs₂ : s₂ = (({ U with heap := s₂.heap, slotsUsed := s₂.slotsUsed } : State).setVm s₂.vm).setTop { g with pc := g.pc + len₂, stack := v.toList ++ g.stack } := by
      refine e3.trans ?_
      rw [hf₂, State.calling_eq h.top, State.setFrames_setFrames, State.setTop_of_frames _ hr', hr]
      rfl
    have hsame : U.sameButNew ({ U with heap := s₂.heap, slotsUsed := s₂.slotsUsed } : State) L mc ms := by
      refine ⟨?_, q2, q3, q4, q5, q6⟩
      obtain ⟨t, ht, -⟩ := State.frames_cons hr
      show ({ U with heap := s₂.heap, slotsUsed := s₂.slotsUsed } : State) = { U.setFrames U.frames with heap := s₂.heap, slotsUsed := s₂.slotsUsed }
      rw [State.setFrames_self ht]
    subst hg
    refine Or.inl ⟨v, ⟨(({ U with heap := s₂.heap, slotsUsed := s₂.slotsUsed } : State).setVm s₂.vm), Ls ++ L, c0 + mc, s0 + ms⟩,
      ⟨X.admits, X.cas, X.clock, X.frames, X.room, X.hears, X.method, X.code, (X.here.setHeapUsed s₂.heap s₂.slotsUsed).setVm hW'.alike, X.tail, State.WarmedH.trans X.warmed hW', X.limits, X.bytes, X.same.trans (hsame.setVm s.vm)⟩,
      ⟨g, mk, s₂, L, rfl, rfl, hqc, rfl, hL, rfl, rfl⟩, ?_⟩
    show Steps p.tables e below _ ((({ U with heap := s₂.heap, slotsUsed := s₂.slotsUsed } : State).setVm s₂.vm).setTop { g with pc := g.pc + len₂, stack := v.toList ++ g.stack })
    rw [← hs₂]
    exact hsteps
  · obtain ⟨e2, q2, q3, q4, q5, q6⟩ := id hsm
    have e3 : s₂ = ({ (U.calling g mk a).setFrames s₂.frames with heap := s₂.heap, slotsUsed := s₂.slotsUsed } : State).setVm s₂.vm := by
      have : s₂ = ({ s₂ with vm := (U.calling g mk a).vm } : State).setVm s₂.vm := rfl
      rw [e2] at this
      exact this
    have hf₂ : s₂.frames = .throwing q :: .java g :: U.frames.tail := hend
    have hW' : U.WarmedH s₂.vm := hW₂
    have hs₂ : s₂ = ((({ U with heap := s₂.heap, slotsUsed := s₂.slotsUsed } : State).setVm s₂.vm).setTop g).pushFrame (.throwing q) := by
      refine e3.trans ?_
      rw [hf₂, State.calling_eq h.top, State.setFrames_setFrames, State.pushFrame, State.frames_setTop _ hr', State.setTop_of_frames _ hr', State.setFrames_setFrames, hr]
      rfl
    have hsame : U.sameButNew ({ U with heap := s₂.heap, slotsUsed := s₂.slotsUsed } : State) L mc ms := by
      refine ⟨?_, q2, q3, q4, q5, q6⟩
      obtain ⟨t, ht, -⟩ := State.frames_cons hr
      show ({ U with heap := s₂.heap, slotsUsed := s₂.slotsUsed } : State) = { U.setFrames U.frames with heap := s₂.heap, slotsUsed := s₂.slotsUsed }
      rw [State.setFrames_self ht]
    subst hg
    refine Or.inr ⟨q, ⟨(({ U with heap := s₂.heap, slotsUsed := s₂.slotsUsed } : State).setVm s₂.vm), Ls ++ L, c0 + mc, s0 + ms⟩,
      ⟨X.admits, X.cas, X.clock, X.frames, X.room, X.hears, X.method, X.code, (X.here.setHeapUsed s₂.heap s₂.slotsUsed).setVm hW'.alike, X.tail, State.WarmedH.trans X.warmed hW', X.limits, X.bytes, X.same.trans (hsame.setVm s.vm)⟩,
      ⟨g, mk, s₂, L, E, ce, rfl, rfl, hx, hce, hcv, hcl, rfl, hL, rfl, rfl⟩, ?_⟩
    show Steps p.tables e below _ (((({ U with heap := s₂.heap, slotsUsed := s₂.slotsUsed } : State).setVm s₂.vm).setTop g).pushFrame (.throwing q))
    rw [← hs₂]
    exact hsteps
end
variable {p : Program} {l : Launch} {e : Env} {R : Room} {s : State} {m : MethodId} {args : Array Value} {below : List Frame} {meth : Method} {c : Code} {T : State} {H : Heap} {locs : List Loc} {cells slots : Nat}
theorem vx_callVX (X : Stand p l e R s m args below meth c T locs cells slots) (hexec : p.tables.exec = Jvm.exec) {own C : String} {index : Nat} {y : MethodName} {bytes : ByteArray} {maxL : Nat} {ret : Option FieldType} {hh : List (Nat × Nat × Nat × Nat)}
    (hown : s.vm.findClass own = some m.cls) (hlink : (Cond.methodLink own index y).before args s = true) (hinst : (Cond.instanceMethod y).before args s = true) (hsel : (Cond.selects C y y).before args s = true)
    (hcode : (Cond.codeWith y bytes maxL ret hh).before args s = true) (hy : y.cls ≠ "java/lang/invoke/MethodHandle" ∧ y.cls ≠ "java/lang/invoke/VarHandle")
    {W9 : Nat} {Pre : Pt → Array Value → Prop} {Post : Pt → Array Value → Option Value → Pt → Prop} {PostX : Pt → Array Value → Addr → Pt → Prop} (hK : vx_Back l R p e below s args y 3 W9 Pre Post PostX)
    {b : Addr} {cellB : Cell} (hcell : T.heap[b]? = some cellB) (hobj : cellB.vm.isStatics = false) (hcls : s.vm.findClass C = some cellB.cls)
    {g : JFrame} (hg : g.method = m) (hsize : g.locals.size = c.maxLocals) {argsL rest : List Value} (hlen : ∀ sig, parseMethodDescriptor y.desc = some sig → argsL.length = sig.parameters.length)
    (hstack : g.stack = argsL.reverse ++ .ref b :: rest) (hW : 2 * g.monitorRoom + (rest.map fun v => v.category).sum ≤ W9) (hdg : decode c.code g.pc = .ok (.invokevirtual index, 3))
    (hpre : ∀ vm₁, s.WarmedH vm₁ → Pre ⟨T.setVm vm₁, locs, cells, slots⟩ (Value.ref b :: argsL).toArray) :
    (∃ (v : Option Value) (vm₁ : Vm) (B : Pt), s.WarmedH vm₁ ∧ Stand p l e R s m args below meth c B.U B.locs B.cells B.slots ∧ Post ⟨T.setVm vm₁, locs, cells, slots⟩ (Value.ref b :: argsL).toArray v B ∧
      ∀ target, Steps p.tables e below (B.U.setTop { g with pc := g.pc + 3, stack := v.toList ++ rest }) target → Steps p.tables e below (T.setTop g) target) ∨
    (∃ (q : Addr) (vm₁ : Vm) (B : Pt), s.WarmedH vm₁ ∧ Stand p l e R s m args below meth c B.U B.locs B.cells B.slots ∧ PostX ⟨T.setVm vm₁, locs, cells, slots⟩ (Value.ref b :: argsL).toArray q B ∧
      Steps p.tables e below (T.setTop g) ((B.U.setTop { g with stack := rest }).pushFrame (.throwing q))) := by
  obtain ⟨mk, methM, hnamed, hmethM, hstM, habM⟩ := Cond.instanceMethod_spec hinst
  obtain ⟨m8, methM', cM, hn8, hmethM', -, -, -, -, -, -, hsigM⟩ := Cond.codeWith_spec hcode
  cases Option.some.inj (hn8.symm.trans hnamed)
  cases hmethM.symm.trans hmethM'
  obtain ⟨c2, r2, m2, q1, q2, q3, q4, kP, hkP, hkPi⟩ := Cond.selects_spec hsel
  cases hcls.symm.trans q1
  cases (State.methodFound?_of_named hnamed hy).symm.trans q2
  cases hnamed.symm.trans q3
  have hselP : selectMethod e.platform s.vm cellB.cls mk = .method mk := by rw [Launch.admits_selectMethod X.admits]; exact q4
  obtain ⟨vm₁, X₁, hstep₁⟩ := X.invokevirtual hexec hown hlink hnamed hmethM hstM hkP hkPi hy (a := b) (cell := cellB) hcell
    (fun z h => by rw [h] at hobj; cases hobj) hselP hmethM habM hkP hkPi (g := g) hg (argsL := argsL) (rest := rest) (hlen _ hsigM) hstack hdg
  rcases hK m meth c ⟨T.setVm vm₁, locs, cells, slots⟩ { g with stack := rest } (.invokevirtual index) mk (Value.ref b :: argsL).toArray X₁ hg hsize hdg hW (X₁.named hnamed) (hpre vm₁ X₁.warmed) with ⟨v, B, X', hpost, hsteps⟩ | ⟨q, B, X', hpost, hsteps⟩
  · exact Or.inl ⟨v, vm₁, B, X₁.warmed, X', hpost, fun target h => hstep₁ _ fun acts => by rw [doInvoke_state]; exact hsteps.trans h⟩
  · exact Or.inr ⟨q, vm₁, B, X₁.warmed, X', hpost, hstep₁ _ fun acts => by rw [doInvoke_state]; exact hsteps⟩
theorem vx_callSX (X : Stand p l e R s m args below meth c T locs cells slots) (hexec : p.tables.exec = Jvm.exec) {own : String} {index : Nat} {y : MethodName} {bytes : ByteArray} {maxL : Nat} {ret : Option FieldType} {hh : List (Nat × Nat × Nat × Nat)}
    (hown : s.vm.findClass own = some m.cls) (hlink : (Cond.methodLink own index y).before args s = true) (hstat : (Cond.static y).before args s = true) (hinit : (Cond.initialized y.cls).before args s = true)
    (hcode : (Cond.codeWith y bytes maxL ret hh).before args s = true) (hy : y.cls ≠ "java/lang/invoke/MethodHandle" ∧ y.cls ≠ "java/lang/invoke/VarHandle")
    {W9 : Nat} {Pre : Pt → Array Value → Prop} {Post : Pt → Array Value → Option Value → Pt → Prop} {PostX : Pt → Array Value → Addr → Pt → Prop} (hK : vx_Back l R p e below s args y 3 W9 Pre Post PostX)
    {g : JFrame} (hg : g.method = m) (hsize : g.locals.size = c.maxLocals) {argsL rest : List Value} (hlen : ∀ sig, parseMethodDescriptor y.desc = some sig → argsL.length = sig.parameters.length)
    (hstack : g.stack = argsL.reverse ++ rest) (hW : 2 * g.monitorRoom + (rest.map fun v => v.category).sum ≤ W9) (hdg : decode c.code g.pc = .ok (.invokestatic index, 3))
    (hpre : ∀ vm₁, s.WarmedH vm₁ → Pre ⟨T.setVm vm₁, locs, cells, slots⟩ argsL.toArray) :
    (∃ (v : Option Value) (vm₁ : Vm) (B : Pt), s.WarmedH vm₁ ∧ Stand p l e R s m args below meth c B.U B.locs B.cells B.slots ∧ Post ⟨T.setVm vm₁, locs, cells, slots⟩ argsL.toArray v B ∧
      ∀ target, Steps p.tables e below (B.U.setTop { g with pc := g.pc + 3, stack := v.toList ++ rest }) target → Steps p.tables e below (T.setTop g) target) ∨
    (∃ (q : Addr) (vm₁ : Vm) (B : Pt), s.WarmedH vm₁ ∧ Stand p l e R s m args below meth c B.U B.locs B.cells B.slots ∧ PostX ⟨T.setVm vm₁, locs, cells, slots⟩ argsL.toArray q B ∧
      Steps p.tables e below (T.setTop g) ((B.U.setTop { g with stack := rest }).pushFrame (.throwing q))) := by
  obtain ⟨mk, methM, cM, hnamed, hmethM, -, -, -, -, -, -, hsigM⟩ := Cond.codeWith_spec hcode
  have hstatic : methM.isStatic = true := Cond.static_spec hnamed hmethM hstat
  obtain ⟨kP, hkP, -⟩ := className_of_methodNamed hnamed
  have hinitP : kP.init = .initialized := Cond.initialized_spec (findClass_of_methodNamed hnamed) hkP hinit
  obtain ⟨vm₁, X₁, hstep₁⟩ := X.invokestatic hexec hown hlink hnamed hmethM hstatic hkP hinitP hy (g := g) hg (argsL := argsL) (rest := rest) (hlen _ hsigM) hstack hdg
  rcases hK m meth c ⟨T.setVm vm₁, locs, cells, slots⟩ { g with stack := rest } (.invokestatic index) mk argsL.toArray X₁ hg hsize hdg hW (X₁.named hnamed) (hpre vm₁ X₁.warmed) with ⟨v, B, X', hpost, hsteps⟩ | ⟨q, B, X', hpost, hsteps⟩
  · exact Or.inl ⟨v, vm₁, B, X₁.warmed, X', hpost, fun target h => hstep₁ _ fun acts => by rw [doInvoke_state]; exact hsteps.trans h⟩
  · exact Or.inr ⟨q, vm₁, B, X₁.warmed, X', hpost, hstep₁ _ fun acts => by rw [doInvoke_state]; exact hsteps⟩
theorem vx_callVW (X : Stand p l e R s m args below meth c T locs cells slots) (hexec : p.tables.exec = Jvm.exec) {own C : String} {index : Nat} {y : MethodName} {bytes : ByteArray} {maxL : Nat} {ret : Option FieldType} {hh : List (Nat × Nat × Nat × Nat)}
    (hown : s.vm.findClass own = some m.cls) (hlink : (Cond.methodLink own index y).before args s = true) (hinst : (Cond.instanceMethod y).before args s = true) (hsel : (Cond.selects C y y).before args s = true)
    (hcode : (Cond.codeWith y bytes maxL ret hh).before args s = true) (hy : y.cls ≠ "java/lang/invoke/MethodHandle" ∧ y.cls ≠ "java/lang/invoke/VarHandle")
    {W9 : Nat} {Pre : Pt → Array Value → Prop} {Post : Pt → Array Value → Option Value → Pt → Prop} (hK : Back l R p e below s args y 3 W9 Pre Post)
    {b : Addr} {cellB : Cell} (hcell : T.heap[b]? = some cellB) (hobj : cellB.vm.isStatics = false) (hcls : s.vm.findClass C = some cellB.cls)
    {g : JFrame} (hg : g.method = m) (hsize : g.locals.size = c.maxLocals) {argsL rest : List Value} (hlen : ∀ sig, parseMethodDescriptor y.desc = some sig → argsL.length = sig.parameters.length)
    (hstack : g.stack = argsL.reverse ++ .ref b :: rest) (hW : 2 * g.monitorRoom + (rest.map fun v => v.category).sum ≤ W9) (hdg : decode c.code g.pc = .ok (.invokevirtual index, 3))
    (hpre : ∀ vm₁, s.WarmedH vm₁ → Pre ⟨T.setVm vm₁, locs, cells, slots⟩ (Value.ref b :: argsL).toArray) :
    ∃ (v : Option Value) (vm₁ : Vm) (B : Pt), s.WarmedH vm₁ ∧ Stand p l e R s m args below meth c B.U B.locs B.cells B.slots ∧ Post ⟨T.setVm vm₁, locs, cells, slots⟩ (Value.ref b :: argsL).toArray v B ∧
      ∀ target, Steps p.tables e below (B.U.setTop { g with pc := g.pc + 3, stack := v.toList ++ rest }) target → Steps p.tables e below (T.setTop g) target := by
  obtain ⟨mk, methM, hnamed, hmethM, hstM, habM⟩ := Cond.instanceMethod_spec hinst
  obtain ⟨m8, methM', cM, hn8, hmethM', -, -, -, -, -, -, hsigM⟩ := Cond.codeWith_spec hcode
  cases Option.some.inj (hn8.symm.trans hnamed)
  cases hmethM.symm.trans hmethM'
  obtain ⟨c2, r2, m2, q1, q2, q3, q4, kP, hkP, hkPi⟩ := Cond.selects_spec hsel
  cases hcls.symm.trans q1
  cases (State.methodFound?_of_named hnamed hy).symm.trans q2
  cases hnamed.symm.trans q3
  have hselP : selectMethod e.platform s.vm cellB.cls mk = .method mk := by rw [Launch.admits_selectMethod X.admits]; exact q4
  obtain ⟨vm₁, X₁, hstep₁⟩ := X.invokevirtual hexec hown hlink hnamed hmethM hstM hkP hkPi hy (a := b) (cell := cellB) hcell
    (fun z h => by rw [h] at hobj; cases hobj) hselP hmethM habM hkP hkPi (g := g) hg (argsL := argsL) (rest := rest) (hlen _ hsigM) hstack hdg
  obtain ⟨v, B, X', hpost, hsteps⟩ := hK m meth c ⟨T.setVm vm₁, locs, cells, slots⟩ { g with stack := rest } (.invokevirtual index) mk (Value.ref b :: argsL).toArray X₁ hg hsize hdg hW (X₁.named hnamed) (hpre vm₁ X₁.warmed)
  exact ⟨v, vm₁, B, X₁.warmed, X', hpost, fun target h => hstep₁ _ fun acts => by rw [doInvoke_state]; exact hsteps.trans h⟩
abbrev vx_CVW (R : Room) (s : State) (args : Array Value) (own C : String) (index : Nat) (y : MethodName) (bytes : ByteArray) (maxL : Nat) (ret : Option FieldType) (hh : List (Nat × Nat × Nat × Nat)) (ws : List Cond) (rm : Room) (mc ms n : Nat) : Prop :=
  (rm.cells = mc ∧ rm.slots = ms ∧ rm.frames + 1 ≤ R.frames ∧ 8 + (maxL + 11) + rm.locals ≤ R.locals ∧ (∀ w ∈ ws, ∀ (a' : Array Value) (U : State), s.WarmedH U.vm → w.before a' U = true) ∧ Cond.codeWith y bytes maxL ret hh ∈ ws) ∧
  (Cond.codeWith y bytes maxL ret hh).before args s = true ∧ (Cond.initialized y.cls).before args s = true ∧ (y.cls ≠ "java/lang/invoke/MethodHandle" ∧ y.cls ≠ "java/lang/invoke/VarHandle") ∧
  (∀ sig, parseMethodDescriptor y.desc = some sig → n = sig.parameters.length) ∧ (Cond.methodLink own index y).before args s = true ∧ (Cond.instanceMethod y).before args s = true ∧ (Cond.selects C y y).before args s = true
theorem vx_cwVW {own C : String} {index maxL mc ms : Nat} {y : MethodName} {bytes : ByteArray} {ret : Option FieldType} {hh : List (Nat × Nat × Nat × Nat)} {Ts ws ws' : List Cond} {rm : Room} (n : Nat) (ht : ∀ w ∈ Ts, w.before args s = true) (hT : GoodIn Ts (wsV own index C y ws)) (hw : ws = Cond.codeWith y bytes maxL ret hh :: ws') (hrc : rm.cells = mc) (hrs : rm.slots = ms)
    (hd : y.cls = C ∧ y.cls ≠ "java/lang/invoke/MethodHandle" ∧ y.cls ≠ "java/lang/invoke/VarHandle" ∧ (parseMethodDescriptor y.desc).map (fun d => d.parameters.length) = some n) (hR : rm.frames + 1 ≤ R.frames ∧ 8 + (maxL + 11) + rm.locals ≤ R.locals) :
    vx_CVW R s args own C index y bytes maxL ret hh ws rm mc ms n := by
  obtain ⟨hC, hd⟩ := hd
  subst hC
  have ok : ∀ w ∈ wsV own index y.cls y ws, w.before args s = true := fun w h => ht w (hT w h).1
  have hG : GoodIn Ts ws := fun w h => hT w (by unfold wsV; exact List.mem_append_right _ h)
  have hc : Cond.codeWith y bytes maxL ret hh ∈ ws := by rw [hw]; exact List.mem_cons_self
  refine ⟨⟨hrc, hrs, hR.1, hR.2, pay_in ht hG, hc⟩, ht _ (hG _ hc).1, ok _ (by simp [wsV]), ⟨hd.1, hd.2.1⟩, fun sig h => ?_, ok _ (by simp [wsV]), ok _ (by simp [wsV]), ok _ (by simp [wsV])⟩
  have h2 := hd.2.2
  rw [h] at h2
  exact (Option.some.inj h2).symm
theorem vx_runVW {y : MethodName} {bytes cc : ByteArray} {maxL nL mc ms n index : Nat} {ret : Option FieldType} {hh : List (Nat × Nat × Nat × Nat)} {ws : List Cond} {rm : Room} {Pc : Array Value → State → Prop} {Qc : Array Value → State → Outcome → State → Prop} {free : Addr → Prop} {Ts : List Cond} {own C : String} {b : Addr} {As rest : List Value} {g : JFrame}
    (S : CallFix p m c cc nL s args Ts own) (hM : Met l y ws rm Pc Qc mc ms free) (cw : vx_CVW R s args own C index y bytes maxL ret hh ws rm mc ms n) (hp : PreV s H C b Pc As)
    (hg : g.method = m) (hn : As.length = n) (hsize : g.locals.size = nL) (hstack : g.stack = As.reverse ++ .ref b :: rest) (hW : 2 * g.monitorRoom + (rest.map fun v => v.category).sum ≤ 8) (hdg : decode cc g.pc = .ok (.invokevirtual index, 3)) (hf : cells + mc ≤ R.cells ∧ slots + ms ≤ R.slots) :
    va_Run p l e R s m args below meth c H locs cells slots mc ms g rest (Qc (Value.ref b :: As).toArray) free := by
  obtain ⟨⟨hrc, hrs, hfr, hlo, hws, hcw⟩, hcode, hini, hy, hlen, hl, hin, hse⟩ := cw
  have hK : Back l R p e below s args y 3 8 (PreOf R mc ms Pc) (PostOf Qc mc ms free) := va_backW (hh := hh) (bytes := bytes) (maxL := maxL) (ret := ret) hM hp.1 hrc hrs hfr hlo hws hcw (fun a' U hW => word_at hW (Or.inl (by first | rfl | simp [Cond.onTables, Cond.keeps, Cond.steady])) hini)
  obtain ⟨hx, hb, hml, ho, -⟩ := S
  obtain ⟨-, ⟨cellB, hcB, hoB, hclB⟩, hPc⟩ := hp
  intro T hT X
  obtain ⟨v, vm₁, ⟨U', l2, c2, s2⟩, hW₁, X', ⟨g', mk, t, L, e1, e2, hq, h1, hL, h2, h3⟩, st⟩ := vx_callVW X hx (C := C) (hh := hh) (bytes := bytes) (maxL := maxL) (ret := ret) ho hl hin hse hcode hy hK (by rw [hT]; exact hcB) hoB hclB hg (hsize.trans hml.symm) (argsL := As) (rest := rest) (fun sig h => hn.trans (hlen sig h)) hstack hW (by rw [hb]; exact hdg)
    (fun vm₁ hW₁ => ⟨hf.1, hf.2, hPc (T.setVm vm₁) hT hW₁⟩)
  dsimp only [Pt.U, Pt.locs, Pt.cells, Pt.slots] at X' e1 e2 h1 h2 h3 st
  subst h1; subst h2; subst h3
  exact ⟨v, (T.setVm vm₁).calling g' mk (Value.ref b :: As).toArray, t, U', L, hT, X', hL, e1, e2, hq, st⟩
section
variable {y : MethodName} {bytes cc : ByteArray} {maxL nL mc ms n index : Nat} {ret : Option FieldType} {ws : List Cond} {rm : Room} {Pc : Array Value → State → Prop} {Qc : Array Value → State → Outcome → State → Prop} {XC : String → State → State → Prop} {free : Addr → Prop} {Ts : List Cond} {own C : String} {b : Addr} {As rest : List Value} {g : JFrame}
theorem vx_runVX {hh : List (Nat × Nat × Nat × Nat)} (S : CallFix p m c cc nL s args Ts own) (hM : vx_Met l y ws rm Pc Qc XC mc ms free) (cw : vx_CVW R s args own C index y bytes maxL ret hh ws rm mc ms n) (hp : PreV s H C b Pc As)
    (hg : g.method = m) (hn : As.length = n) (hsize : g.locals.size = nL) (hstack : g.stack = As.reverse ++ .ref b :: rest) (hW : 2 * g.monitorRoom + (rest.map fun v => v.category).sum ≤ 8) (hdg : decode cc g.pc = .ok (.invokevirtual index, 3)) (hf : cells + mc ≤ R.cells ∧ slots + ms ≤ R.slots) :
    vx_Run p l e R s m args below meth c H locs cells slots mc ms g rest (Qc (Value.ref b :: As).toArray) XC free := by
  obtain ⟨⟨hrc, hrs, hfr, hlo, hws, hcw⟩, hcode, hini, hy, hlen, hl, hin, hse⟩ := cw
  have hK : vx_Back l R p e below s args y 3 8 (PreOf R mc ms Pc) (PostOf Qc mc ms free) (vx_Post XC mc ms free) := vx_backW (hh := hh) (bytes := bytes) (maxL := maxL) (ret := ret) hM hp.1 hrc hrs hfr hlo hws hcw (fun a' U hW => word_at hW (Or.inl (by first | rfl | simp [Cond.onTables, Cond.keeps, Cond.steady])) hini)
  obtain ⟨hx, hb, hml, ho, -⟩ := S
  obtain ⟨-, ⟨cellB, hcB, hoB, hclB⟩, hPc⟩ := hp
  intro T hT X
  rcases vx_callVX X hx (C := C) (hh := hh) (bytes := bytes) (maxL := maxL) (ret := ret) ho hl hin hse hcode hy hK (by rw [hT]; exact hcB) hoB hclB hg (hsize.trans hml.symm) (argsL := As) (rest := rest) (fun sig h => hn.trans (hlen sig h)) hstack hW (by rw [hb]; exact hdg)
    (fun vm₁ hW₁ => ⟨hf.1, hf.2, hPc (T.setVm vm₁) hT hW₁⟩) with ⟨v, vm₁, ⟨U', l2, c2, s2⟩, hW₁, X', ⟨g', mk, t, L, e1, e2, hq, h1, hL, h2, h3⟩, st⟩ | ⟨q, vm₁, ⟨U', l2, c2, s2⟩, hW₁, X', ⟨g', mk, t, L, E, ce, e1, e2, hq, hce, hcv, hcl, h1, hL, h2, h3⟩, st⟩
  · dsimp only [Pt.U, Pt.locs, Pt.cells, Pt.slots] at X' e1 e2 h1 h2 h3 st
    subst h1; subst h2; subst h3
    exact Or.inl ⟨v, (T.setVm vm₁).calling g' mk (Value.ref b :: As).toArray, t, U', L, hT, X', hL, e1, e2, hq, st⟩
  · dsimp only [Pt.U, Pt.locs, Pt.cells, Pt.slots] at X' e1 e2 h1 h2 h3 st hcl
    subst h1; subst h2; subst h3
    exact Or.inr ⟨q, (T.setVm vm₁).calling g' mk (Value.ref b :: As).toArray, t, U', L, E, ce, hT, X', hL, e1, e2, hq, hce, hcv, vx_cls hW₁ hcl, st⟩
theorem vx_runSX {hh : List (Nat × Nat × Nat × Nat)} (S : CallFix p m c cc nL s args Ts own) (hM : vx_Met l y ws rm Pc Qc XC mc ms free) (cw : vx_CSW R s args own index y bytes maxL ret hh ws rm mc ms n) (hp : PreS s H Pc As)
    (hg : g.method = m) (hn : As.length = n) (hsize : g.locals.size = nL) (hstack : g.stack = As.reverse ++ rest) (hW : 2 * g.monitorRoom + (rest.map fun v => v.category).sum ≤ 8) (hdg : decode cc g.pc = .ok (.invokestatic index, 3)) (hf : cells + mc ≤ R.cells ∧ slots + ms ≤ R.slots) :
    vx_Run p l e R s m args below meth c H locs cells slots mc ms g rest (Qc As.toArray) XC free := by
  obtain ⟨⟨hrc, hrs, hfr, hlo, hws, hcw⟩, hcode, hini, hy, hlen, hl, hstt⟩ := cw
  have hK : vx_Back l R p e below s args y 3 8 (PreOf R mc ms Pc) (PostOf Qc mc ms free) (vx_Post XC mc ms free) := vx_backW (hh := hh) (bytes := bytes) (maxL := maxL) (ret := ret) hM hp.1 hrc hrs hfr hlo hws hcw (fun a' U hW => word_at hW (Or.inl (by first | rfl | simp [Cond.onTables, Cond.keeps, Cond.steady])) hini)
  obtain ⟨hx, hb, hml, ho, -⟩ := S
  intro T hT X
  rcases vx_callSX X hx (hh := hh) (bytes := bytes) (maxL := maxL) (ret := ret) ho hl hstt hini hcode hy hK hg (hsize.trans hml.symm) (argsL := As) (rest := rest) (fun sig h => hn.trans (hlen sig h)) hstack hW (by rw [hb]; exact hdg)
    (fun vm₁ hW₁ => ⟨hf.1, hf.2, hp.2 (T.setVm vm₁) hT hW₁⟩) with ⟨v, vm₁, ⟨U', l2, c2, s2⟩, hW₁, X', ⟨g', mk, t, L, e1, e2, hq, h1, hL, h2, h3⟩, st⟩ | ⟨q, vm₁, ⟨U', l2, c2, s2⟩, hW₁, X', ⟨g', mk, t, L, E, ce, e1, e2, hq, hce, hcv, hcl, h1, hL, h2, h3⟩, st⟩
  · dsimp only [Pt.U, Pt.locs, Pt.cells, Pt.slots] at X' e1 e2 h1 h2 h3 st
    subst h1; subst h2; subst h3
    exact Or.inl ⟨v, (T.setVm vm₁).calling g' mk As.toArray, t, U', L, hT, X', hL, e1, e2, hq, st⟩
  · dsimp only [Pt.U, Pt.locs, Pt.cells, Pt.slots] at X' e1 e2 h1 h2 h3 st hcl
    subst h1; subst h2; subst h3
    exact Or.inr ⟨q, (T.setVm vm₁).calling g' mk As.toArray, t, U', L, E, ce, hT, X', hL, e1, e2, hq, hce, hcv, vx_cls hW₁ hcl, st⟩
end
end VXH
theorem vx_ofWH {l : Launch} {y : MethodName} {ws ws' : List Cond} {rm : Room} {Pc : Array Value → State → Prop} {Qc : Array Value → State → Outcome → State → Prop} {XC : String → State → State → Prop} {mc ms : Nat} {free : Addr → Prop} {cc : ByteArray} {maxL : Nat} {ret : Option FieldType} {hh : List (Nat × Nat × Nat × Nat)}
    (hy : plainName y.cls = true) (hw : ws = Cond.codeWith y cc maxL ret hh :: ws')
    (body : ∀ p e s m args below meth c s₁, BodyLoose p l y (headSpec ws rm) cc maxL ret e s m args below meth c s₁ → c.maxLocals = maxL → Pc args s →
      W p l e (headSpec ws rm).room s m args below meth c s.heap [] 0 0 (vx_MQ below Qc XC args s mc ms free) (entryFrame m args maxL)) : vx_Met l y ws rm Pc Qc XC mc ms free := by
  refine MetFree.of_bodyS (code := cc) (maxLocals := maxL) (ret := ret) hy ?_ ?_
  · intro args s m h hn
    obtain ⟨m9, meth, c, hn9, h1, h2, h3, h4, -, h5, h6, -⟩ := Cond.codeWith_spec (atoms_spec (ws := ws) h _ (by rw [hw]; exact List.mem_cons_self))
    cases hn.symm.trans hn9
    exact ⟨meth, c, h1, h2, h3, h4, h5, h6⟩
  · intro p e s m args below meth c s₁ B hml hP _
    have hh0 : s₁.heap = s.heap := by rw [B.state]; rfl
    obtain ⟨t, a1, o, b1, b2, b3⟩ := body p e s m args below meth c s₁ B hml hP s₁ hh0 (Stand.of_body B)
    exact ⟨t, o, a1, b1, b2, b3⟩
/-! ===== END ===== -/

/-! ===== BEGIN what the machine throws by itself, no traces kept ===== -/
section VXM
set_option maxHeartbeats 1000000 in
/-- the machine throws cls with the message text, no traces kept: from its note over the frame g to 'throwing' over the same frame (follows the proofs of Stand.vmThrowsMessage, Shelf/KitTracedVmS.lean, and Stand.throwsMessageColdBareV, StandMessageColdV.lean, without the step out of the frame) -/
theorem vx_vmAt {p : Program} {l : Launch} {e : Env} {R : Room} {s : State} {m₀ : MethodId} {args : Array Value} {below : List Frame} {meth : Method} {c : Code} {W : State} {locs : List Loc} {cells slots : Nat}
    (X : Stand p l e R s m₀ args below meth c W locs cells slots) (hexec : p.tables.exec = Jvm.exec) (htr : e.platform.stackTraces = false) {cls : String} {names : List String} {text : String}
    (hcls : Bundle.fit cls = true) (hnames : ∀ n ∈ names, Bundle.fit n = true) (hsoe : (cls == "java/lang/StackOverflowError") = false) (hoom : (cls == "java/lang/OutOfMemoryError") = false)
    (h : ∀ a ∈ Bundle.messageArmAtoms cls names, a.before args s = true)
    (hlocs : ∀ x ∈ locs, ∀ cell, s.heap[x.base]? = some cell → cell.vm.isStatics = false)
    (htext : (text == notModelled) = false) (hlimit : ¬ (stringBytes (stringToUtf16 text)).size > e.platform.arrayLengthLimit) (hheap : ¬ (stringBytes (stringToUtf16 text)).size * componentBytes .byte > e.platform.maxHeapBytes)
    {g : JFrame} (hg : g.method = m₀) (hsize : g.locals.size = c.maxLocals)
    (hRframes : names.length + 4 < R.frames) (hRlocals : 2 * g.monitorRoom + (g.stack.map fun v => v.category).sum + 10240 ≤ R.locals) (hshort : 13 * names.length + 55 ≤ 10240)
    (hRcells : cells + 3 ≤ R.cells) (hRslots : slots + ((stringBytes (stringToUtf16 text)).size + 4 + 6) ≤ R.slots) (hlocks : meth.locks = false) :
    ∃ (S : State) (q : Addr) (ce : Cell), (∀ target, Steps p.tables e below ((S.setTop g).pushFrame (.throwing q)) target → Steps p.tables e below ((W.setTop g).pushFrame (.throwNew cls (some text) none)) target) ∧
      Stand p l e R s m₀ args below meth c S locs (cells + 3) (slots + ((stringBytes (stringToUtf16 text)).size + 4 + 6)) ∧ S.heap[q]? = some ce ∧ s.vm.findClass cls = some ce.cls ∧ ce.vm = .none := by
  have howns : e.platform.frameOwnsMonitors = true := by rw [X.admits.platform]
  have hfin : e.platform.finalization = false := by rw [X.admits.platform]
  have hpl : e.platform.magicAccessors = ({} : Platform).magicAccessors := by rw [X.admits.platform]
  have a : ∀ x, x ∈ Bundle.messageArmAtoms cls names → x.holds args s none s [] = true := fun x hx => h x hx
  obtain ⟨T, Z0, L, -, Y⟩ := ThrowableC.of_atoms (args := args) howns hfin hpl (fun x hx => h x (by simp [Bundle.messageArmAtoms, hx]))
  obtain ⟨Z, M, LZ, LM, hnZ⟩ := Init0T.ofS_atoms (args := args) hpl L Y (fun x hx => h x (by simp [Bundle.messageArmAtoms, hx]))
  obtain ⟨P1, Ps, hlen, L1, hL, hP1m, hlink1, hlink⟩ := Bundle.chainS (args := args) hpl hnZ names cls hcls hnames (fun x hx => h x (by simp [Bundle.messageArmAtoms, hx]))
  obtain ⟨Zs, LZs, hn4, hfitv, hfitc⟩ := StringT.of_atoms (args := args) (fun x hx => h x (by simp [Bundle.messageArmAtoms, hx]))
  have hfound : s.vm.findClass cls = some P1.m.cls := findClass_of_methodNamed hP1m
  obtain ⟨c1, kX, hc1, hk, hord, -, -, hn6⟩ := Cond.instantiable_spec (a (.instantiable cls 6) (by simp [Bundle.messageArmAtoms]))
  cases Option.some.inj (hc1.symm.trans hfound)
  have hinit := Cond.initialized_spec hfound hk (a (.initialized cls) (by simp [Bundle.messageArmAtoms]))
  have hctor : kX.findMethod "<init>" "(Ljava/lang/String;)V" = some P1.m.idx := findMethod_of_methodNamed hP1m hk
  have hsel0 : selectMethod e.platform s.vm P1.m.cls T.fill0 = .method T.fill0 := by
    obtain ⟨c2, r2, m2, q1, q2, q3, q4, -⟩ := Cond.selects_spec (a (.selects cls Bundle.tFill0 Bundle.tFill0) (by simp [Bundle.messageArmAtoms]))
    cases Option.some.inj (q1.symm.trans hfound)
    cases Option.some.inj (q2.symm.trans (State.methodFound?_of_named Y.fill0 (by decide)))
    cases Option.some.inj (q3.symm.trans Y.fill0)
    rw [Launch.admits_selectMethod X.admits]; exact q4
  have hselF : selectMethod e.platform s.vm P1.m.cls T.fill = .method T.fill := by
    obtain ⟨c2, r2, m2, q1, q2, q3, q4, -⟩ := Cond.selects_spec (a (.selects cls Bundle.tFill Bundle.tFill) (by simp [Bundle.messageArmAtoms]))
    cases Option.some.inj (q1.symm.trans hfound)
    cases Option.some.inj (q2.symm.trans (State.methodFound?_of_named Y.fill (by decide)))
    cases Option.some.inj (q3.symm.trans Y.fill)
    rw [Launch.admits_selectMethod X.admits]; exact q4
  obtain ⟨cellS0, hcS0, hiss⟩ := Y.statics
  obtain ⟨u0, hu0⟩ := Cond.staticRefV Y.unassigned L.unassignedStatic L.statics hcS0 hiss (a (.isRef (.static Bundle.tN "UNASSIGNED_STACK" Bundle.steD)) (by simp [Bundle.messageArmAtoms]))
  obtain ⟨sen, hsen⟩ := Cond.staticRefV Y.sentinel L.sentinelStatic L.statics hcS0 hiss (a (.isRef (.static Bundle.tN "SUPPRESSED_SENTINEL" Bundle.listD)) (by simp [Bundle.messageArmAtoms]))
  obtain ⟨ci198, i198, fB, hk198, hg198, ha198, hsB, -, hnB, htB, hffB⟩ := Cond.ownField (t := .object "java/lang/Object") Y.found L.cls (by decide +kernel) (a (.fieldLink Bundle.tN 198 Bundle.tN "backtrace" "Ljava/lang/Object;") (by simp [Bundle.messageArmAtoms])) (a (.lays Bundle.tN Bundle.tN "backtrace" "Ljava/lang/Object;") (by simp [Bundle.messageArmAtoms])) e.platform hpl
  obtain ⟨cellS, hcS', heS, -, hkeep⟩ := X.same.2.2.2.2.2 T.aS cellS0 hcS0
  have hcellS : W.heap[T.aS]? = some cellS := hcS'
  have hout' : ∀ i, (⟨T.aS, i⟩ : Loc) ∉ locs := fun i hmem => by
    have := hlocs _ hmem cellS0 hcS0
    rw [hiss] at this; cases this
  have hknownS : cellS.vm ≠ .unknown := by
    rw [heS]; intro hu
    rw [show cellS0.vm = .unknown from hu] at hiss
    cases hiss
  have hvU : cellS.slots[T.fUnassigned.slot]? = some u0.v := by rw [hkeep _ (hout' _)]; exact hu0
  have hvSen : cellS.slots[T.fSentinel.slot]? = some sen.v := by rw [hkeep _ (hout' _)]; exact hsen
  obtain ⟨iM, hffM⟩ := Y.msg
  obtain ⟨tyC, dC, hdC, hdnC⟩ := Cond.laysAt hfound hk Y.cause (a (.lays cls Bundle.tN "cause" "Ljava/lang/Throwable;") (by simp [Bundle.messageArmAtoms]))
  obtain ⟨tyS, dS, hdS, hdnS⟩ := Cond.laysAt hfound hk Y.stack (a (.lays cls Bundle.tN "stackTrace" Bundle.steD) (by simp [Bundle.messageArmAtoms]))
  obtain ⟨tyP, dP, hdP, hdnP⟩ := Cond.laysAt hfound hk Y.supp (a (.lays cls Bundle.tN "suppressedExceptions" Bundle.listD) (by simp [Bundle.messageArmAtoms]))
  obtain ⟨tyM, dM, hdM, hdnM⟩ := Cond.laysAt hfound hk hffM (a (.lays cls Bundle.tN "detailMessage" "Ljava/lang/String;") (by simp [Bundle.messageArmAtoms]))
  obtain ⟨tyB, dB, hdB, hdnB⟩ := Cond.laysAt hfound hk hffB (a (.lays cls Bundle.tN "backtrace" "Ljava/lang/Object;") (by simp [Bundle.messageArmAtoms]))
  have bC := Cond.laysApart hdB hdC hdnB hdnC (by rw [hnB, Y.causeName]; decide)
  have bS := Cond.laysApart hdB hdS hdnB hdnS (by rw [hnB, Y.stackName]; decide)
  have bP := Cond.laysApart hdB hdP hdnB hdnP (by rw [hnB, Y.suppName]; decide)
  have hbk : ((preparedCellV T.toThrowableT (freshCell P1.m.cls kX) (W.heap.size + 2) u0 sen).withEntry W.cur).slots[fB.slot]? = some .null := by
    have := fresh_default (c := P1.m.cls) tyB
    rw [htB] at this
    simpa [preparedCellV, Cell.setSlot, Cell.withEntry, Array.getElem?_setIfInBounds, bC, bS, bP, bC.symm, bS.symm, bP.symm, defaultValue] using this
  have tkC := Takes.of_laid (v := .ref (W.heap.size + 2)) hk hord tyC (by rw [Y.causeType]; rfl)
  have tkS := Takes.of_laid (v := u0.v) hk hord tyS (by rw [Y.stackType]; exact fits_refV_array _ u0)
  have tkP := Takes.of_laid (v := sen.v) hk hord tyP (by rw [Y.suppType]; exact fits_refV_object _ sen)
  have tkM := Takes.of_laid (v := .ref (W.heap.size + 1)) hk hord tyM (by rw [Y.msgType]; rfl)
  have hskip : SkipFacts T e.platform s (fun u => u) u0 ((preparedCellV T.toThrowableT (freshCell P1.m.cls kX) (W.heap.size + 2) u0 sen).withEntry W.cur) := ⟨{ ci198 := ci198, i198 := i198, fBack := fB }, ⟨hk198, hg198, ha198, hsB⟩, hbk, fun _ _ => rfl⟩
  have h0 : At W g.method c below := by rw [hg]; exact X.here
  obtain ⟨hbeyond, hfreeW⟩ := X.vmMayThrow hsize (.throwNew cls (some text) none) (fun f hf => by cases hf) rfl hRlocals
  have hfr' : W.frames.length + Ps.length + 4 < (e.platform.stackLimits W.me).1 := by have := X.framesAbove hRframes; omega
  have hwd' : (stackUse (.java g :: W.frames.tail)).2 + 13 * Ps.length + 55 ≤ (e.platform.stackLimits W.me).2 := by have := X.stackAbove hsize (K := 13 * Ps.length + 55) (by omega); omega
  have hslots : W.slotsUsed + (stringBytes (stringToUtf16 text)).size + Zs.kS.instanceTypes.size + kX.instanceTypes.size ≤ e.platform.maxSlots := by
    have := X.slotsAbove hRslots
    rw [hn4, hn6]
    omega
  obtain ⟨vm', hW', st⟩ := Steps.vmThrowsMessageColdByV p (s₀ := s) (S := W) (g := g) h0 hexec T L Z LZ M LM X.warmed (t := W.cur) rfl Zs LZs P1 L1 Ps hL hlink1 hlink hsoe hoom hfound hk hinit hord hctor
    (Launch.admits_hotImplicitExceptions X.admits) hbeyond hfreeW htext hlimit hheap (X.cellsAbove hRcells) hslots (hfitv _) (hfitc _)
    (Nn := fun u => u) heapOnly_id (fun _ _ => rfl) (fun _ => rfl) (fun u x y => setCell_twice _ _ _ _) (fun _ => Nat.le_refl _) (cN := ((preparedCellV T.toThrowableT (freshCell P1.m.cls kX) (W.heap.size + 2) u0 sen).withEntry W.cur))
    hsel0 hcellS hknownS hvU tkS (fun _ hu => hu) (fun _ hu => hu) rfl rfl rfl (by simp [preparedCellV, Cell.setSlot, Cell.withEntry]) hskip (fun _ _ hA hW _ hroom _ hrest => L.nativeOff p htr hA hW hroom hrest) hselF hvSen tkC tkP tkM Y.objLocals rfl hfr' hwd'
  rw [plainBareV_eq T.toThrowableT (W.heap.size + 2) u0 sen (.ref (W.heap.size + 1)) W.cur rfl rfl] at st
  obtain ⟨-, -, w3, w4, -, -, -⟩ := withThrown_facts e.platform W Zs text P1.m.cls kX
  have X3 := ((X.pushed (bytesOf Zs.cB (stringToUtf16 text))).pushed (stringAt Zs.cS Zs.kS Zs.fv Zs.fc (stringToUtf16 text) W.heap.size)).pushed (freshCell P1.m.cls kX)
  rw [← withString_eq] at X3
  have X4 := X3.noted hW'
  have ha : (W.heap.size + 2) < ((withThrown W Zs text P1.m.cls kX).setVm vm').heap.size := by show _ < (withThrown W Zs text P1.m.cls kX).heap.size; rw [w3]; omega
  have hcell : ((withThrown W Zs text P1.m.cls kX).setVm vm').heap[(W.heap.size + 2)]? = some (freshCell P1.m.cls kX) := w4
  have X5 := ((((X4.stored hcell T.fCause.slot (.ref (W.heap.size + 2))).storedAgain ha T.fStack.slot u0.v).storedAgain ha T.fSupp.slot sen.v).storedAgain ha T.fStack.slot u0.v).storedAgain ha T.fMsg.slot (.ref (W.heap.size + 1))
  obtain ⟨g₁, hfrM⟩ := X5.frames_eq
  have hU : ((((withThrown W Zs text P1.m.cls kX).setVm vm').setCell (W.heap.size + 2) (plainBareV T.toThrowableT (freshCell P1.m.cls kX) (W.heap.size + 2) u0 sen (.ref (W.heap.size + 1)))).setTop g).pushFrame (.throwing (W.heap.size + 2)) = (((withThrown W Zs text P1.m.cls kX).setVm vm').setCell (W.heap.size + 2) (plainBareV T.toThrowableT (freshCell P1.m.cls kX) (W.heap.size + 2) u0 sen (.ref (W.heap.size + 1)))).setFrames (.throwing (W.heap.size + 2) :: .java g :: below) := by
    rw [State.pushFrame, State.frames_setTop _ hfrM, State.setTop_of_frames _ hfrM, State.setFrames_setFrames]
  have b1 : (bytesOf Zs.cB (stringToUtf16 text)).slots.size = (stringBytes (stringToUtf16 text)).size := by
    rw [(Cell.writeAll_facts _ _).2.2]; simp [bytes0]
  have b2 : (stringAt Zs.cS Zs.kS Zs.fv Zs.fc (stringToUtf16 text) W.heap.size).slots.size = 4 := by simp [string0, Cell.setSlot, hn4]
  have b3 : (freshCell P1.m.cls kX).slots.size = 6 := by simp [hn6]
  rw [b1, b2, b3] at X5
  have e9 : slots + (stringBytes (stringToUtf16 text)).size + 4 + 6 = slots + ((stringBytes (stringToUtf16 text)).size + 4 + 6) := by omega
  rw [e9] at X5
  simp only [List.append_assoc, List.cons_append, List.nil_append] at X5
  refine ⟨((withThrown W Zs text P1.m.cls kX).setVm vm').setCell (W.heap.size + 2) (plainBareV T.toThrowableT (freshCell P1.m.cls kX) (W.heap.size + 2) u0 sen (.ref (W.heap.size + 1))), W.heap.size + 2, _, fun target ht => st _ (by rw [X.tail, ← hU]; exact ht),
    X5.forget (fun y hy => ?_), heapAt_setCell_self _ ha, hfound, rfl⟩
  simp only [List.mem_cons, List.not_mem_nil, or_false] at hy
  have hge : s.heap.size ≤ W.heap.size := X.same.2.1
  rcases hy with rfl | rfl | rfl | rfl | rfl <;> exact Nat.le_trans hge (Nat.le_add_right _ 2)
set_option maxHeartbeats 1000000 in
/-- the machine throws NullPointerException, no traces kept: from its note over the frame g to 'throwing' over the same frame (follows the proof of Stand.vmThrowsNpe, Shelf42/KT2.lean; throwsNpeColdBareVAt, Shelf42/NT91.lean, called) -/
theorem vx_npeAt {p : Program} {l : Launch} {e : Env} {R : Room} {s : State} {m₀ : MethodId} {args : Array Value} {below : List Frame} {meth : Method} {c : Code} {W : State} {locs : List Loc} {cells slots : Nat}
    (X : Stand p l e R s m₀ args below meth c W locs cells slots) (hexec : p.tables.exec = Jvm.exec) (htr : e.platform.stackTraces = false) {n : Nat}
    (h : ∀ a ∈ Bundle.npeArmAtoms n, a.before args s = true)
    (hlocs : ∀ x ∈ locs, ∀ cell, s.heap[x.base]? = some cell → cell.vm.isStatics = false)
    {g : JFrame} (hg : g.method = m₀) (hsize : g.locals.size = c.maxLocals)
    (hRframes : 7 < R.frames) (hRlocals : 2 * g.monitorRoom + (g.stack.map fun v => v.category).sum + 10240 ≤ R.locals)
    (hRcells : cells + 1 ≤ R.cells) (hRslots : slots + n ≤ R.slots) (hlocks : meth.locks = false) :
    ∃ (S : State) (q : Addr) (ce : Cell), (∀ target, Steps p.tables e below ((S.setTop g).pushFrame (.throwing q)) target → Steps p.tables e below ((W.setTop g).pushFrame (.throwNew "java/lang/NullPointerException" none none)) target) ∧
      Stand p l e R s m₀ args below meth c S locs (cells + 1) (slots + n) ∧ S.heap[q]? = some ce ∧ s.vm.findClass "java/lang/NullPointerException" = some ce.cls ∧ ce.vm = .none := by
  have howns : e.platform.frameOwnsMonitors = true := by rw [X.admits.platform]
  have hfin : e.platform.finalization = false := by rw [X.admits.platform]
  have hpl : e.platform.magicAccessors = ({} : Platform).magicAccessors := by rw [X.admits.platform]
  have hpl2 : e.platform.arrayCloneIsPublic = true := by rw [X.admits.platform]
  have a' : ∀ x, x ∈ Bundle.npeArmAtoms n → x.holds args s none s [] = true := fun x hx => h x hx
  obtain ⟨T, Z, L, LZ, Y⟩ := ThrowableC.of_atoms (args := args) howns hfin hpl (fun x hx => h x (by simp [Bundle.npeArmAtoms, hx]))
  obtain ⟨N, LN, hcN, hnNF, hordN, hffS⟩ := NpeC.of_atoms (args := args) hpl hpl2 L Y (fun x hx => h x (by simp [Bundle.npeArmAtoms, hx]))
  obtain ⟨P1, L1, hP1m, hP1s⟩ := PassC.of_atoms (args := args) (s := s) hpl (X := Bundle.nN) (Y := Bundle.rN) (by decide) (by decide) LibCode.NullPointerException.Init0.at_0 LibCode.NullPointerException.Init0.at_1 LibCode.NullPointerException.Init0.at_4 (fun x hx => h x (by simp [Bundle.npeArmAtoms, hx]))
  obtain ⟨PR, LR, hPRm, hPRs⟩ := PassC.of_atoms (args := args) (s := s) hpl (X := Bundle.rN) (Y := Bundle.eN) (by decide) (by decide) LibCode.RuntimeException.Init0.at_0 LibCode.RuntimeException.Init0.at_1 LibCode.RuntimeException.Init0.at_4 (fun x hx => h x (by simp [Bundle.npeArmAtoms, hx]))
  obtain ⟨PE, LEx, hPEm, hPEs⟩ := PassC.of_atoms (args := args) (s := s) hpl (X := Bundle.eN) (Y := Bundle.tN) (by decide) (by decide) LibCode.Exception.Init0.at_0 LibCode.Exception.Init0.at_1 LibCode.Exception.Init0.at_4 (fun x hx => h x (by simp [Bundle.npeArmAtoms, hx]))
  have hfound : s.vm.findClass Bundle.nN = some P1.m.cls := findClass_of_methodNamed hP1m
  have ecls : N.cN = P1.m.cls := Option.some.inj (hcN.symm.trans hfound)
  have hk : s.vm.classes[P1.m.cls]? = some N.kN := by rw [← ecls]; exact LN.cls
  have hinit := Cond.initialized_spec hfound hk (a' (.initialized Bundle.nN) (by simp [Bundle.npeArmAtoms]))
  have hctor : N.kN.findMethod "<init>" "()V" = some P1.m.idx := findMethod_of_methodNamed hP1m hk
  obtain ⟨c1, k1, hc1, hk1, -, -, -, hn⟩ := Cond.instantiable_spec (a' (.instantiable Bundle.nN n) (by simp [Bundle.npeArmAtoms]))
  cases Option.some.inj (hc1.symm.trans hfound)
  cases Option.some.inj (hk1.symm.trans hk)
  have hfsz : (freshCell P1.m.cls N.kN).slots.size = n := by simp [hn]
  have hlink1 : P1.sup = PR.m := Option.some.inj (hP1s.symm.trans hPRm)
  have hlinkR : PR.sup = PE.m := Option.some.inj (hPRs.symm.trans hPEm)
  have hlinkE : PE.sup = Z.m T.toThrowableT := Option.some.inj (hPEs.symm.trans Y.init0)
  have hLs : ∀ P, P ∈ [PR, PE] → P.Links0 e.platform s := fun P hP => by
    simp only [List.mem_cons, List.not_mem_nil, or_false] at hP
    rcases hP with rfl | rfl
    · exact LR
    · exact LEx
  have hsel0 : selectMethod e.platform s.vm P1.m.cls T.fill0 = .method T.fill0 := by
    obtain ⟨c2, r2, m2, q1, q2, q3, q4, -⟩ := Cond.selects_spec (a' (.selects Bundle.nN Bundle.tFill0 Bundle.tFill0) (by simp [Bundle.npeArmAtoms]))
    cases Option.some.inj (q1.symm.trans hfound)
    cases Option.some.inj (q2.symm.trans (State.methodFound?_of_named Y.fill0 (by decide)))
    cases Option.some.inj (q3.symm.trans Y.fill0)
    rw [Launch.admits_selectMethod X.admits]; exact q4
  have hselF : selectMethod e.platform s.vm P1.m.cls T.fill = .method N.fill := by
    obtain ⟨c2, r2, m2, q1, q2, q3, q4, -⟩ := Cond.selects_spec (a' (.selects Bundle.nN Bundle.tFill Bundle.nFill) (by simp [Bundle.npeArmAtoms]))
    cases Option.some.inj (q1.symm.trans hfound)
    cases Option.some.inj (q2.symm.trans (State.methodFound?_of_named Y.fill (by decide)))
    cases Option.some.inj (q3.symm.trans hnNF)
    rw [Launch.admits_selectMethod X.admits]; exact q4
  obtain ⟨cellS0, hcS0, hiss⟩ := Y.statics
  obtain ⟨u0, hu0⟩ := Cond.staticRefV Y.unassigned L.unassignedStatic L.statics hcS0 hiss (a' (.isRef (.static Bundle.tN "UNASSIGNED_STACK" Bundle.steD)) (by simp [Bundle.npeArmAtoms]))
  obtain ⟨sen, hsen⟩ := Cond.staticRefV Y.sentinel L.sentinelStatic L.statics hcS0 hiss (a' (.isRef (.static Bundle.tN "SUPPRESSED_SENTINEL" Bundle.listD)) (by simp [Bundle.npeArmAtoms]))
  obtain ⟨ci198, i198, fB, hk198, hg198, ha198, hsB, -, hnB, htB, hffB⟩ := Cond.ownField (t := .object "java/lang/Object") Y.found L.cls (by decide +kernel) (a' (.fieldLink Bundle.tN 198 Bundle.tN "backtrace" Bundle.objD) (by simp [Bundle.npeArmAtoms])) (a' (.lays Bundle.tN Bundle.tN "backtrace" Bundle.objD) (by simp [Bundle.npeArmAtoms])) e.platform hpl
  obtain ⟨cellS, hcS', heS, -, hkeep⟩ := X.same.2.2.2.2.2 T.aS cellS0 hcS0
  have hcellS : W.heap[T.aS]? = some cellS := hcS'
  have hout' : ∀ i, (⟨T.aS, i⟩ : Loc) ∉ locs := fun i hmem => by
    have := hlocs _ hmem cellS0 hcS0
    rw [hiss] at this; cases this
  have hknownS : cellS.vm ≠ .unknown := by
    rw [heS]; intro hu
    rw [show cellS0.vm = .unknown from hu] at hiss
    cases hiss
  have hvU : cellS.slots[T.fUnassigned.slot]? = some u0.v := by rw [hkeep _ (hout' _)]; exact hu0
  have hvSen : cellS.slots[T.fSentinel.slot]? = some sen.v := by rw [hkeep _ (hout' _)]; exact hsen
  obtain ⟨tyC, dC, hdC, hdnC⟩ := Cond.laysAt hfound hk Y.cause (a' (.lays Bundle.nN Bundle.tN "cause" "Ljava/lang/Throwable;") (by simp [Bundle.npeArmAtoms]))
  obtain ⟨tyS, dS, hdS, hdnS⟩ := Cond.laysAt hfound hk Y.stack (a' (.lays Bundle.nN Bundle.tN "stackTrace" Bundle.steD) (by simp [Bundle.npeArmAtoms]))
  obtain ⟨tyP, dP, hdP, hdnP⟩ := Cond.laysAt hfound hk Y.supp (a' (.lays Bundle.nN Bundle.tN "suppressedExceptions" Bundle.listD) (by simp [Bundle.npeArmAtoms]))
  obtain ⟨tyX, dX, hdX, hdnX⟩ := Cond.laysAt hfound hk hffS (a' (.lays Bundle.nN Bundle.nN "extendedMessageState" "I") (by simp [Bundle.npeArmAtoms, Bundle.npeAtoms]))
  obtain ⟨hnX, htX⟩ := State.fieldFound?_type hffS (t := .int) (by decide +kernel)
  have xC := Cond.laysApart hdC hdX hdnC hdnX (by rw [hnX, Y.causeName]; decide)
  have xS := Cond.laysApart hdS hdX hdnS hdnX (by rw [hnX, Y.stackName]; decide)
  have xP := Cond.laysApart hdP hdX hdnP hdnX (by rw [hnX, Y.suppName]; decide)
  have hv0 : (freshCell P1.m.cls N.kN).slots[N.fState.slot]? = some (.int 0) := by
    have := fresh_default (c := P1.m.cls) tyX
    rw [htX] at this; exact this
  obtain ⟨tyB, dB, hdB, hdnB⟩ := Cond.laysAt hfound hk hffB (a' (.lays Bundle.nN Bundle.tN "backtrace" Bundle.objD) (by simp [Bundle.npeArmAtoms]))
  have bC := Cond.laysApart hdB hdC hdnB hdnC (by rw [hnB, Y.causeName]; decide)
  have bS := Cond.laysApart hdB hdS hdnB hdnS (by rw [hnB, Y.stackName]; decide)
  have bP := Cond.laysApart hdB hdP hdnB hdnP (by rw [hnB, Y.suppName]; decide)
  have bX := Cond.laysApart hdB hdX hdnB hdnX (by rw [hnB, hnX]; decide)
  have hbk : ((npeCell N.toNpeT (preparedCellV T.toThrowableT (freshCell P1.m.cls N.kN) W.heap.size u0 sen) W.cur).withEntry W.cur).slots[fB.slot]? = some .null := by
    have := fresh_default (c := P1.m.cls) tyB
    rw [htB] at this
    simpa [npeCell, preparedCellV, Cell.setSlot, Cell.withEntry, Array.getElem?_setIfInBounds, bC, bS, bP, bX, bC.symm, bS.symm, bP.symm, bX.symm, defaultValue] using this
  have tkC := Takes.of_laid (v := .ref W.heap.size) hk hordN tyC (by rw [Y.causeType]; rfl)
  have tkS := Takes.of_laid (v := u0.v) hk hordN tyS (by rw [Y.stackType]; exact fits_refV_array _ u0)
  have tkP := Takes.of_laid (v := sen.v) hk hordN tyP (by rw [Y.suppType]; exact fits_refV_object _ sen)
  have tkX := Takes.of_laid (v := .int 1) hk hordN tyX (by rw [htX]; rfl)
  have hskip : SkipFacts T e.platform s (fun u => u) u0 ((npeCell N.toNpeT (preparedCellV T.toThrowableT (freshCell P1.m.cls N.kN) W.heap.size u0 sen) W.cur).withEntry W.cur) := ⟨{ ci198 := ci198, i198 := i198, fBack := fB }, ⟨hk198, hg198, ha198, hsB⟩, hbk, fun _ _ => rfl⟩
  obtain ⟨vm', X3, st, -⟩ := X.throwsNpeColdBareVAt hexec hg hsize T L Z LZ N LN P1 L1 [PR, PE] hLs hlink1 ⟨hlinkR, hlinkE, trivial⟩ hfound hk hinit hordN hctor hsel0 hselF hcellS hknownS hvU hvSen
    hv0 xC xS xP tkC tkS tkP tkX Y.objLocals hskip (fun _ _ hA hW _ hroom _ hrest => L.nativeOff p htr hA hW hroom hrest) (by simpa using hRframes) hRlocals (by simp) hRcells (by rw [hn]; exact hRslots)
  have hlt : W.heap.size < ((W.pushCell (freshCell P1.m.cls N.kN)).setVm vm').heap.size := by
    show W.heap.size < (W.pushCell (freshCell P1.m.cls N.kN)).heap.size
    rw [State.heap_size_pushCell]; omega
  rw [hfsz] at X3
  obtain ⟨g₁, hfrM⟩ := X3.frames_eq
  have hU : ((((W.pushCell (freshCell P1.m.cls N.kN)).setVm vm').setCell W.heap.size (npeBareV T.toThrowableT N.toNpeT (freshCell P1.m.cls N.kN) W.heap.size u0 sen)).setTop g).pushFrame (.throwing W.heap.size) = (((W.pushCell (freshCell P1.m.cls N.kN)).setVm vm').setCell W.heap.size (npeBareV T.toThrowableT N.toNpeT (freshCell P1.m.cls N.kN) W.heap.size u0 sen)).setFrames (.throwing W.heap.size :: .java g :: below) := by
    rw [State.pushFrame, State.frames_setTop _ hfrM, State.setTop_of_frames _ hfrM, State.setFrames_setFrames]
  refine ⟨_, W.heap.size, _, fun target ht => st.trans (by rw [← hU]; exact ht), X3.forget (fun y hy => ?_), heapAt_setCell_self _ hlt, hfound, rfl⟩
  simp only [List.mem_cons, List.not_mem_nil, or_false] at hy
  have hge : s.heap.size ≤ W.heap.size := X.same.2.1
  rcases hy with rfl | rfl | rfl | rfl | rfl <;> exact hge
/-- the words of a machine's NullPointerException, but the four that speak of the heap -/
def vx_atN (n : Nat) : List Cond := (Bundle.npeArmAtoms n).filter vx_no
/-- the words of a machine's throw with a message, but the four that speak of the heap -/
def vx_atM (X : String) (names : List String) : List Cond := (Bundle.messageArmAtoms X names).filter vx_no
section
variable {p : Program} {l : Launch} {e : Env} {R : Room} {s : State} {m : MethodId} {args : Array Value} {below : List Frame} {meth : Method} {c : Code} {H : Heap} {locs : List Loc} {cells slots : Nat}
/-- a frame seen from a rebased start, seen from the first start again -/
theorem vx_back9 {T S : State} {R' : Room} {k n : Nat} (X : Stand p l e R s m args below meth c T locs cells slots) (Y : Stand p l e R' ((T.setVm s.vm).setFrames (.invoking m args :: below)) m args below meth c T [] 0 0) (Z : Stand p l e R' ((T.setVm s.vm).setFrames (.invoking m args :: below)) m args below meth c S [] k n) :
    Stand p l e R s m args below meth c S locs (cells + k) (slots + n) := by
  have hW0 : s.WarmedH ((T.setVm s.vm).setFrames (.invoking m args :: below)).vm := State.WarmedH.refl s
  refine { admits := X.admits, cas := X.cas, clock := X.clock, frames := X.frames, room := X.room, hears := X.hears, method := X.method, code := X.code, here := Z.here, tail := Z.tail, warmed := State.WarmedH.trans hW0 Z.warmed, limits := Z.limits.trans (Y.limits.symm.trans X.limits), bytes := Z.bytes.trans (Y.bytes.symm.trans X.bytes), same := ?_ }
  obtain ⟨e1, e2⟩ := Z.same
  rw [State.setFrames_setFrames] at e1
  have h2 : (T.setVm s.vm).sameButNew (S.setVm s.vm) [] k n := ⟨e1, e2⟩
  have h3 := X.same.trans h2
  rw [List.append_nil] at h3
  exact h3
/-- from the machine's note that E is thrown here with this text -/
def vx_Note (p : Program) (l : Launch) (e : Env) (R : Room) (s : State) (m : MethodId) (args : Array Value) (below : List Frame) (meth : Method) (c : Code) (H : Heap) (locs : List Loc) (cells slots : Nat) (Q : State → Prop) (g : JFrame) (E text : String) : Prop :=
  ∀ T : State, T.heap = H → Stand p l e R s m args below meth c T locs cells slots → ∃ t, Steps p.tables e below ((T.setTop g).pushFrame (.throwNew E (some text) none)) t ∧ Q t
theorem vx_vm {pc : Nat} {ls : Array Slot} {rest : List Value} {Q : State → Prop} (hexec : p.tables.exec = Jvm.exec) (hl : l.stackTraces = false) {cls text : String} {names : List String} {nb : Nat} {A : Nat → Prop}
    (hcls : Bundle.fit cls = true) (hnames : ∀ n ∈ names, Bundle.fit n = true) (hsoe : (cls == "java/lang/StackOverflowError") = false) (hoom : (cls == "java/lang/OutOfMemoryError") = false)
    (hat : ∀ w ∈ vx_atM cls names, w.before args s = true) (hgood : ∀ w ∈ vx_atM cls names, vx_ot w = true)
    (hU : vx_Zq Bundle.tN "UNASSIGNED_STACK" Bundle.steD A s s.heap) (hN : vx_Zq Bundle.tN "SUPPRESSED_SENTINEL" Bundle.listD A s s.heap) (hS : va_S A s.heap H locs) (hsize : ls.size = c.maxLocals)
    (htext : (text == notModelled) = false) (hnb : (stringBytes (stringToUtf16 text)).size ≤ nb) (hnb1 : nb ≤ 1000)
    (hRframes : names.length + 4 < R.frames) (hRlocals : (rest.map fun v => v.category).sum + 10240 ≤ R.locals) (hshort : 13 * names.length + 55 ≤ 10240) (hRcells : cells + 3 ≤ R.cells) (hRslots : slots + (nb + 10) ≤ R.slots) (hlocks : meth.locks = false)
    (k : ∀ (H1 : Heap) (q9 : Addr) (ce : Cell), H.size ≤ H1.size → (∀ q : Nat, q < H.size → H1[q]? = H[q]?) → va_S A s.heap H1 locs → H1[q9]? = some ce → ce.vm = .none → s.vm.findClass cls = some ce.cls → vx_W p l e R s m args below meth c H1 locs (cells + 3) (slots + (nb + 10)) Q (F0 m pc ls rest) q9) :
    vx_Note p l e R s m args below meth c H locs cells slots Q (F0 m pc ls rest) cls text := by
  intro T hT X
  have htr : e.platform.stackTraces = false := (show e.platform.stackTraces = l.stackTraces by rw [X.admits.platform]).trans hl
  have Y := vx_rebase X (R' := { frames := R.frames, locals := R.locals, cells := 3, slots := nb + 10 }) (Nat.le_refl _) (Nat.le_refl _) hRcells hRslots
  have hhp : ((T.setVm s.vm).setFrames (.invoking m args :: below)).heap = H := hT
  have hW0 : s.WarmedH ((T.setVm s.vm).setFrames (.invoking m args :: below)).vm := State.WarmedH.refl s
  have hat' : ∀ w ∈ vx_atM cls names, w.before args ((T.setVm s.vm).setFrames (.invoking m args :: below)) = true := fun w hw => vx_ot_at hW0 rfl (hgood w hw) (hat w hw)
  have hU' : vx_Zq Bundle.tN "UNASSIGNED_STACK" Bundle.steD A ((T.setVm s.vm).setFrames (.invoking m args :: below)) ((T.setVm s.vm).setFrames (.invoking m args :: below)).heap := by rw [hhp]; exact vx_Zq.moved hW0.alike (hU.kept hS.2.1)
  have hN' : vx_Zq Bundle.tN "SUPPRESSED_SENTINEL" Bundle.listD A ((T.setVm s.vm).setFrames (.invoking m args :: below)) ((T.setVm s.vm).setFrames (.invoking m args :: below)).heap := by rw [hhp]; exact vx_Zq.moved hW0.alike (hN.kept hS.2.1)
  obtain ⟨S, q, ce, st, Z, hce, hcl', hv⟩ := vx_vmAt Y hexec htr (cls := cls) (names := names) (text := text) hcls hnames hsoe hoom (vx_own hat' (vx_isRefq hU'.1) (vx_isRefq hN'.1) hU'.2.word hN'.2.word) (fun x hx => nomatch hx) htext
    (by rw [Launch.admits_arrayLengthLimit X.admits]; omega) (by rw [Launch.admits_maxHeapBytes X.admits]; simp only [componentBytes]; omega)
    (g := F0 m pc ls rest) rfl hsize hRframes (by show 2 * 0 + (rest.map fun v => v.category).sum + 10240 ≤ R.locals; omega) hshort (by show 0 + 3 ≤ 3; omega) (by show 0 + (_ + 4 + 6) ≤ nb + 10; omega) hlocks
  obtain ⟨f1, f2⟩ := vx_frame Z.same
  have f1' : H.size ≤ S.heap.size := by rw [← hT]; exact f1
  have f2' : ∀ q : Nat, q < H.size → S.heap[q]? = H[q]? := fun q hq => by
    rw [← hT]
    exact f2 q (by rw [← hT] at hq; exact hq) (fun z hz => nomatch hz)
  have X5 := vx_back9 X Y Z
  have X6 : Stand p l e R s m args below meth c S locs (cells + 3) (slots + (nb + 10)) := { X5 with same := X5.same.mono (by omega) (by omega) }
  obtain ⟨t, a1, b1⟩ := k S.heap q ce f1' f2' ⟨Nat.le_trans hS.1 f1', fun q h1 h2 => (f2' q (Nat.lt_of_lt_of_le h1 hS.1)).trans (hS.2.1 q h1 h2), hS.2.2⟩ hce hv hcl' S rfl X6
  exact ⟨t, st t a1, b1⟩
/-- from the machine's note that NullPointerException is thrown here -/
def vx_NoteN (p : Program) (l : Launch) (e : Env) (R : Room) (s : State) (m : MethodId) (args : Array Value) (below : List Frame) (meth : Method) (c : Code) (H : Heap) (locs : List Loc) (cells slots : Nat) (Q : State → Prop) (g : JFrame) : Prop :=
  ∀ T : State, T.heap = H → Stand p l e R s m args below meth c T locs cells slots → ∃ t, Steps p.tables e below ((T.setTop g).pushFrame (.throwNew "java/lang/NullPointerException" none none)) t ∧ Q t
theorem vx_npe {pc : Nat} {ls : Array Slot} {rest : List Value} {Q : State → Prop} (hexec : p.tables.exec = Jvm.exec) (hl : l.stackTraces = false) {nb : Nat} {A : Nat → Prop}
    (hat : ∀ w ∈ vx_atN nb, w.before args s = true) (hgood : ∀ w ∈ vx_atN nb, vx_ot w = true)
    (hU : vx_Zq Bundle.tN "UNASSIGNED_STACK" Bundle.steD A s s.heap) (hN : vx_Zq Bundle.tN "SUPPRESSED_SENTINEL" Bundle.listD A s s.heap) (hS : va_S A s.heap H locs) (hsize : ls.size = c.maxLocals)
    (hRframes : 7 < R.frames) (hRlocals : (rest.map fun v => v.category).sum + 10240 ≤ R.locals) (hRcells : cells + 1 ≤ R.cells) (hRslots : slots + nb ≤ R.slots) (hlocks : meth.locks = false)
    (k : ∀ (H1 : Heap) (q9 : Addr) (ce : Cell), H.size ≤ H1.size → (∀ q : Nat, q < H.size → H1[q]? = H[q]?) → va_S A s.heap H1 locs → H1[q9]? = some ce → ce.vm = .none → s.vm.findClass "java/lang/NullPointerException" = some ce.cls → vx_W p l e R s m args below meth c H1 locs (cells + 1) (slots + nb) Q (F0 m pc ls rest) q9) :
    vx_NoteN p l e R s m args below meth c H locs cells slots Q (F0 m pc ls rest) := by
  intro T hT X
  have htr : e.platform.stackTraces = false := (show e.platform.stackTraces = l.stackTraces by rw [X.admits.platform]).trans hl
  have Y := vx_rebase X (R' := { frames := R.frames, locals := R.locals, cells := 1, slots := nb }) (Nat.le_refl _) (Nat.le_refl _) hRcells hRslots
  have hhp : ((T.setVm s.vm).setFrames (.invoking m args :: below)).heap = H := hT
  have hW0 : s.WarmedH ((T.setVm s.vm).setFrames (.invoking m args :: below)).vm := State.WarmedH.refl s
  have hat' : ∀ w ∈ vx_atN nb, w.before args ((T.setVm s.vm).setFrames (.invoking m args :: below)) = true := fun w hw => vx_ot_at hW0 rfl (hgood w hw) (hat w hw)
  have hU' : vx_Zq Bundle.tN "UNASSIGNED_STACK" Bundle.steD A ((T.setVm s.vm).setFrames (.invoking m args :: below)) ((T.setVm s.vm).setFrames (.invoking m args :: below)).heap := by rw [hhp]; exact vx_Zq.moved hW0.alike (hU.kept hS.2.1)
  have hN' : vx_Zq Bundle.tN "SUPPRESSED_SENTINEL" Bundle.listD A ((T.setVm s.vm).setFrames (.invoking m args :: below)) ((T.setVm s.vm).setFrames (.invoking m args :: below)).heap := by rw [hhp]; exact vx_Zq.moved hW0.alike (hN.kept hS.2.1)
  obtain ⟨S, q, ce, st, Z, hce, hcl', hv⟩ := vx_npeAt Y hexec htr (n := nb) (vx_own hat' (vx_isRefq hU'.1) (vx_isRefq hN'.1) hU'.2.word hN'.2.word) (fun x hx => nomatch hx)
    (g := F0 m pc ls rest) rfl hsize hRframes (by show 2 * 0 + (rest.map fun v => v.category).sum + 10240 ≤ R.locals; omega) (by show 0 + 1 ≤ 1; omega) (by show 0 + nb ≤ nb; omega) hlocks
  obtain ⟨f1, f2⟩ := vx_frame Z.same
  have f1' : H.size ≤ S.heap.size := by rw [← hT]; exact f1
  have f2' : ∀ q : Nat, q < H.size → S.heap[q]? = H[q]? := fun q hq => by
    rw [← hT]
    exact f2 q (by rw [← hT] at hq; exact hq) (fun z hz => nomatch hz)
  have X5 := vx_back9 X Y Z
  have X6 : Stand p l e R s m args below meth c S locs (cells + 1) (slots + nb) := { X5 with same := X5.same.mono (by omega) (by omega) }
  obtain ⟨t, a1, b1⟩ := k S.heap q ce f1' f2' ⟨Nat.le_trans hS.1 f1', fun q h1 h2 => (f2' q (Nat.lt_of_lt_of_le h1 hS.1)).trans (hS.2.1 q h1 h2), hS.2.2⟩ hce hv hcl' S rfl X6
  exact ⟨t, st t a1, b1⟩
variable {Q : State → Prop} {cc : ByteArray} {pc : Nat} {ls : Array Slot} {rest : List Value}
theorem vx_idivZ (hexec : p.tables.exec = Jvm.exec) (hb : c.code = cc) {a b : Int32} (h0 : b = 0) (d : decode cc pc = .ok (.idiv, 1)) (k : vx_Note p l e R s m args below meth c H locs cells slots Q (F0 m pc ls rest) "java/lang/ArithmeticException" "/ by zero") :
    W p l e R s m args below meth c H locs cells slots Q (F0 m pc ls (.int b :: .int a :: rest)) := by
  intro T hT X
  obtain ⟨t, st, q⟩ := k T hT X
  exact ⟨t, X.idivZero hexec (g := F0 m pc ls (.int b :: .int a :: rest)) rfl (a := a) (rest := rest) (by rw [h0]) (by rw [hb]; exact d) t st, q⟩
theorem vx_iremZ (hexec : p.tables.exec = Jvm.exec) (hb : c.code = cc) {a b : Int32} (h0 : b = 0) (d : decode cc pc = .ok (.irem, 1)) (k : vx_Note p l e R s m args below meth c H locs cells slots Q (F0 m pc ls rest) "java/lang/ArithmeticException" "/ by zero") :
    W p l e R s m args below meth c H locs cells slots Q (F0 m pc ls (.int b :: .int a :: rest)) := by
  intro T hT X
  obtain ⟨t, st, q⟩ := k T hT X
  exact ⟨t, X.iremZero hexec (g := F0 m pc ls (.int b :: .int a :: rest)) rfl (a := a) (rest := rest) (by rw [h0]) (by rw [hb]; exact d) t st, q⟩
theorem vx_ldivZ (hexec : p.tables.exec = Jvm.exec) (hb : c.code = cc) {a b : Int64} (h0 : b = 0) (d : decode cc pc = .ok (.ldiv, 1)) (k : vx_Note p l e R s m args below meth c H locs cells slots Q (F0 m pc ls rest) "java/lang/ArithmeticException" "/ by zero") :
    W p l e R s m args below meth c H locs cells slots Q (F0 m pc ls (.long b :: .long a :: rest)) := by
  intro T hT X
  obtain ⟨t, st, q⟩ := k T hT X
  exact ⟨t, X.ldivZero hexec (g := F0 m pc ls (.long b :: .long a :: rest)) rfl (a := a) (rest := rest) (by rw [h0]) (by rw [hb]; exact d) t st, q⟩
theorem vx_lremZ (hexec : p.tables.exec = Jvm.exec) (hb : c.code = cc) {a b : Int64} (h0 : b = 0) (d : decode cc pc = .ok (.lrem, 1)) (k : vx_Note p l e R s m args below meth c H locs cells slots Q (F0 m pc ls rest) "java/lang/ArithmeticException" "/ by zero") :
    W p l e R s m args below meth c H locs cells slots Q (F0 m pc ls (.long b :: .long a :: rest)) := by
  intro T hT X
  obtain ⟨t, st, q⟩ := k T hT X
  exact ⟨t, X.lremZero hexec (g := F0 m pc ls (.long b :: .long a :: rest)) rfl (a := a) (rest := rest) (by rw [h0]) (by rw [hb]; exact d) t st, q⟩
theorem vx_ialdZ {D : va_G} {cl : List vw_C} {ws : va_W} {tys : List (ClassId × FieldType)} {a : Nat} (hexec : p.tables.exec = Jvm.exec) (hb : c.code = cc) (hK : va_K D cl tys s) (hP : va_P D cl ws H) (q0 t0 : Nat) {cA : ClassId} {n : Nat} {f : Nat → Int32} (ha : ws[q0]? = some (a, .inl (cA, n, .inl f))) (ht : tys[t0]? = some (cA, .int)) {i : Int32} (hout : ¬ vp_in i n) (hdg : decode cc pc = .ok (.iaload, 1))
    (k : ∀ tx : String, tx = (toString "Index " ++ toString i ++ toString " out of bounds for length " ++ toString n : String) → vx_Note p l e R s m args below meth c H locs cells slots Q (F0 m pc ls rest) "java/lang/ArrayIndexOutOfBoundsException" tx) : W p l e R s m args below meth c H locs cells slots Q (F0 m pc ls (.int i :: .ref a :: rest)) := by
  intro T hT X
  obtain ⟨t, st, q⟩ := k _ rfl T hT X
  refine ⟨t, ?_, q⟩
  have h1 := X.ialoadOut hexec (by rw [hT]; exact hP q0 _ ha) ((hK.2 t0 _ ht).1 n (fun j => .int (f j))) (j := i) (by show (i < 0 ∨ (arrV _ _ _).slots.size ≤ _); rw [arrV_size]; exact Classical.byContradiction hout) (g := F0 m pc ls (.int i :: .ref a :: rest)) rfl (rest := rest) rfl (by rw [hb]; exact hdg) t
  simp only [arrV_size] at h1
  exact h1 st
theorem vx_iastZ {D : va_G} {cl : List vw_C} {ws : va_W} {tys : List (ClassId × FieldType)} {a : Nat} (hexec : p.tables.exec = Jvm.exec) (hb : c.code = cc) (hK : va_K D cl tys s) (hP : va_P D cl ws H) (q0 t0 : Nat) {cA : ClassId} {n : Nat} {f : Nat → Int32} (ha : ws[q0]? = some (a, .inl (cA, n, .inl f))) (ht : tys[t0]? = some (cA, .int)) {i : Int32} {x : Int32} (hout : ¬ vp_in i n) (hdg : decode cc pc = .ok (.iastore, 1))
    (k : ∀ tx : String, tx = (toString "Index " ++ toString i ++ toString " out of bounds for length " ++ toString n : String) → vx_Note p l e R s m args below meth c H locs cells slots Q (F0 m pc ls rest) "java/lang/ArrayIndexOutOfBoundsException" tx) : W p l e R s m args below meth c H locs cells slots Q (F0 m pc ls (.int x :: .int i :: .ref a :: rest)) := by
  intro T hT X
  obtain ⟨t, st, q⟩ := k _ rfl T hT X
  refine ⟨t, ?_, q⟩
  have h1 := X.iastoreOut hexec (by rw [hT]; exact hP q0 _ ha) ((hK.2 t0 _ ht).1 n (fun j => .int (f j))) (j := i) (by show (i < 0 ∨ (arrV _ _ _).slots.size ≤ _); rw [arrV_size]; exact Classical.byContradiction hout) (g := F0 m pc ls (.int x :: .int i :: .ref a :: rest)) rfl (rest := rest) rfl (by rw [hb]; exact hdg) t
  simp only [arrV_size] at h1
  exact h1 st
theorem vx_baldZ {D : va_G} {cl : List vw_C} {ws : va_W} {tys : List (ClassId × FieldType)} {a : Nat} (hexec : p.tables.exec = Jvm.exec) (hb : c.code = cc) (hK : va_K D cl tys s) (hP : va_P D cl ws H) (q0 t0 : Nat) {cA : ClassId} {n : Nat} {f : Nat → Int32} (ha : ws[q0]? = some (a, .inl (cA, n, .inl f))) (ht : tys[t0]? = some (cA, .byte)) {i : Int32} (hout : ¬ vp_in i n) (hdg : decode cc pc = .ok (.baload, 1))
    (k : ∀ tx : String, tx = (toString "Index " ++ toString i ++ toString " out of bounds for length " ++ toString n : String) → vx_Note p l e R s m args below meth c H locs cells slots Q (F0 m pc ls rest) "java/lang/ArrayIndexOutOfBoundsException" tx) : W p l e R s m args below meth c H locs cells slots Q (F0 m pc ls (.int i :: .ref a :: rest)) := by
  intro T hT X
  obtain ⟨t, st, q⟩ := k _ rfl T hT X
  refine ⟨t, ?_, q⟩
  have h1 := X.baloadOut hexec (by rw [hT]; exact hP q0 _ ha) ((hK.2 t0 _ ht).1 n (fun j => .int (f j))) (j := i) (by show (i < 0 ∨ (arrV _ _ _).slots.size ≤ _); rw [arrV_size]; exact Classical.byContradiction hout) (g := F0 m pc ls (.int i :: .ref a :: rest)) rfl (rest := rest) rfl (by rw [hb]; exact hdg) t
  simp only [arrV_size] at h1
  exact h1 st
theorem vx_bastZ {D : va_G} {cl : List vw_C} {ws : va_W} {tys : List (ClassId × FieldType)} {a : Nat} (hexec : p.tables.exec = Jvm.exec) (hb : c.code = cc) (hK : va_K D cl tys s) (hP : va_P D cl ws H) (q0 t0 : Nat) {cA : ClassId} {n : Nat} {f : Nat → Int32} (ha : ws[q0]? = some (a, .inl (cA, n, .inl f))) (ht : tys[t0]? = some (cA, .byte)) {i : Int32} {x : Int32} (hout : ¬ vp_in i n) (hdg : decode cc pc = .ok (.bastore, 1))
    (k : ∀ tx : String, tx = (toString "Index " ++ toString i ++ toString " out of bounds for length " ++ toString n : String) → vx_Note p l e R s m args below meth c H locs cells slots Q (F0 m pc ls rest) "java/lang/ArrayIndexOutOfBoundsException" tx) : W p l e R s m args below meth c H locs cells slots Q (F0 m pc ls (.int x :: .int i :: .ref a :: rest)) := by
  intro T hT X
  obtain ⟨t, st, q⟩ := k _ rfl T hT X
  refine ⟨t, ?_, q⟩
  have h1 := X.bastoreOut hexec (by rw [hT]; exact hP q0 _ ha) ((hK.2 t0 _ ht).1 n (fun j => .int (f j))) (j := i) (by show (i < 0 ∨ (arrV _ _ _).slots.size ≤ _); rw [arrV_size]; exact Classical.byContradiction hout) (g := F0 m pc ls (.int x :: .int i :: .ref a :: rest)) rfl (rest := rest) rfl (by rw [hb]; exact hdg) t
  simp only [arrV_size] at h1
  exact h1 st
theorem vx_zaldZ {D : va_G} {cl : List vw_C} {ws : va_W} {tys : List (ClassId × FieldType)} {a : Nat} (hexec : p.tables.exec = Jvm.exec) (hb : c.code = cc) (hK : va_K D cl tys s) (hP : va_P D cl ws H) (q0 t0 : Nat) {cA : ClassId} {n : Nat} {f : Nat → Int32} (ha : ws[q0]? = some (a, .inl (cA, n, .inl f))) (ht : tys[t0]? = some (cA, .boolean)) {i : Int32} (hout : ¬ vp_in i n) (hdg : decode cc pc = .ok (.baload, 1))
    (k : ∀ tx : String, tx = (toString "Index " ++ toString i ++ toString " out of bounds for length " ++ toString n : String) → vx_Note p l e R s m args below meth c H locs cells slots Q (F0 m pc ls rest) "java/lang/ArrayIndexOutOfBoundsException" tx) : W p l e R s m args below meth c H locs cells slots Q (F0 m pc ls (.int i :: .ref a :: rest)) := by
  intro T hT X
  obtain ⟨t, st, q⟩ := k _ rfl T hT X
  refine ⟨t, ?_, q⟩
  have h1 := X.baloadOut hexec (by rw [hT]; exact hP q0 _ ha) ((hK.2 t0 _ ht).1 n (fun j => .int (f j))) (j := i) (by show (i < 0 ∨ (arrV _ _ _).slots.size ≤ _); rw [arrV_size]; exact Classical.byContradiction hout) (g := F0 m pc ls (.int i :: .ref a :: rest)) rfl (rest := rest) rfl (by rw [hb]; exact hdg) t
  simp only [arrV_size] at h1
  exact h1 st
theorem vx_zastZ {D : va_G} {cl : List vw_C} {ws : va_W} {tys : List (ClassId × FieldType)} {a : Nat} (hexec : p.tables.exec = Jvm.exec) (hb : c.code = cc) (hK : va_K D cl tys s) (hP : va_P D cl ws H) (q0 t0 : Nat) {cA : ClassId} {n : Nat} {f : Nat → Int32} (ha : ws[q0]? = some (a, .inl (cA, n, .inl f))) (ht : tys[t0]? = some (cA, .boolean)) {i : Int32} {x : Int32} (hout : ¬ vp_in i n) (hdg : decode cc pc = .ok (.bastore, 1))
    (k : ∀ tx : String, tx = (toString "Index " ++ toString i ++ toString " out of bounds for length " ++ toString n : String) → vx_Note p l e R s m args below meth c H locs cells slots Q (F0 m pc ls rest) "java/lang/ArrayIndexOutOfBoundsException" tx) : W p l e R s m args below meth c H locs cells slots Q (F0 m pc ls (.int x :: .int i :: .ref a :: rest)) := by
  intro T hT X
  obtain ⟨t, st, q⟩ := k _ rfl T hT X
  refine ⟨t, ?_, q⟩
  have h1 := X.bastoreOut hexec (by rw [hT]; exact hP q0 _ ha) ((hK.2 t0 _ ht).1 n (fun j => .int (f j))) (j := i) (by show (i < 0 ∨ (arrV _ _ _).slots.size ≤ _); rw [arrV_size]; exact Classical.byContradiction hout) (g := F0 m pc ls (.int x :: .int i :: .ref a :: rest)) rfl (rest := rest) rfl (by rw [hb]; exact hdg) t
  simp only [arrV_size] at h1
  exact h1 st
theorem vx_caldZ {D : va_G} {cl : List vw_C} {ws : va_W} {tys : List (ClassId × FieldType)} {a : Nat} (hexec : p.tables.exec = Jvm.exec) (hb : c.code = cc) (hK : va_K D cl tys s) (hP : va_P D cl ws H) (q0 t0 : Nat) {cA : ClassId} {n : Nat} {f : Nat → Int32} (ha : ws[q0]? = some (a, .inl (cA, n, .inl f))) (ht : tys[t0]? = some (cA, .char)) {i : Int32} (hout : ¬ vp_in i n) (hdg : decode cc pc = .ok (.caload, 1))
    (k : ∀ tx : String, tx = (toString "Index " ++ toString i ++ toString " out of bounds for length " ++ toString n : String) → vx_Note p l e R s m args below meth c H locs cells slots Q (F0 m pc ls rest) "java/lang/ArrayIndexOutOfBoundsException" tx) : W p l e R s m args below meth c H locs cells slots Q (F0 m pc ls (.int i :: .ref a :: rest)) := by
  intro T hT X
  obtain ⟨t, st, q⟩ := k _ rfl T hT X
  refine ⟨t, ?_, q⟩
  have h1 := X.caloadOut hexec (by rw [hT]; exact hP q0 _ ha) ((hK.2 t0 _ ht).1 n (fun j => .int (f j))) (j := i) (by show (i < 0 ∨ (arrV _ _ _).slots.size ≤ _); rw [arrV_size]; exact Classical.byContradiction hout) (g := F0 m pc ls (.int i :: .ref a :: rest)) rfl (rest := rest) rfl (by rw [hb]; exact hdg) t
  simp only [arrV_size] at h1
  exact h1 st
theorem vx_castZ {D : va_G} {cl : List vw_C} {ws : va_W} {tys : List (ClassId × FieldType)} {a : Nat} (hexec : p.tables.exec = Jvm.exec) (hb : c.code = cc) (hK : va_K D cl tys s) (hP : va_P D cl ws H) (q0 t0 : Nat) {cA : ClassId} {n : Nat} {f : Nat → Int32} (ha : ws[q0]? = some (a, .inl (cA, n, .inl f))) (ht : tys[t0]? = some (cA, .char)) {i : Int32} {x : Int32} (hout : ¬ vp_in i n) (hdg : decode cc pc = .ok (.castore, 1))
    (k : ∀ tx : String, tx = (toString "Index " ++ toString i ++ toString " out of bounds for length " ++ toString n : String) → vx_Note p l e R s m args below meth c H locs cells slots Q (F0 m pc ls rest) "java/lang/ArrayIndexOutOfBoundsException" tx) : W p l e R s m args below meth c H locs cells slots Q (F0 m pc ls (.int x :: .int i :: .ref a :: rest)) := by
  intro T hT X
  obtain ⟨t, st, q⟩ := k _ rfl T hT X
  refine ⟨t, ?_, q⟩
  have h1 := X.castoreOut hexec (by rw [hT]; exact hP q0 _ ha) ((hK.2 t0 _ ht).1 n (fun j => .int (f j))) (j := i) (by show (i < 0 ∨ (arrV _ _ _).slots.size ≤ _); rw [arrV_size]; exact Classical.byContradiction hout) (g := F0 m pc ls (.int x :: .int i :: .ref a :: rest)) rfl (rest := rest) rfl (by rw [hb]; exact hdg) t
  simp only [arrV_size] at h1
  exact h1 st
theorem vx_saldZ {D : va_G} {cl : List vw_C} {ws : va_W} {tys : List (ClassId × FieldType)} {a : Nat} (hexec : p.tables.exec = Jvm.exec) (hb : c.code = cc) (hK : va_K D cl tys s) (hP : va_P D cl ws H) (q0 t0 : Nat) {cA : ClassId} {n : Nat} {f : Nat → Int32} (ha : ws[q0]? = some (a, .inl (cA, n, .inl f))) (ht : tys[t0]? = some (cA, .short)) {i : Int32} (hout : ¬ vp_in i n) (hdg : decode cc pc = .ok (.saload, 1))
    (k : ∀ tx : String, tx = (toString "Index " ++ toString i ++ toString " out of bounds for length " ++ toString n : String) → vx_Note p l e R s m args below meth c H locs cells slots Q (F0 m pc ls rest) "java/lang/ArrayIndexOutOfBoundsException" tx) : W p l e R s m args below meth c H locs cells slots Q (F0 m pc ls (.int i :: .ref a :: rest)) := by
  intro T hT X
  obtain ⟨t, st, q⟩ := k _ rfl T hT X
  refine ⟨t, ?_, q⟩
  have h1 := X.saloadOut hexec (by rw [hT]; exact hP q0 _ ha) ((hK.2 t0 _ ht).1 n (fun j => .int (f j))) (j := i) (by show (i < 0 ∨ (arrV _ _ _).slots.size ≤ _); rw [arrV_size]; exact Classical.byContradiction hout) (g := F0 m pc ls (.int i :: .ref a :: rest)) rfl (rest := rest) rfl (by rw [hb]; exact hdg) t
  simp only [arrV_size] at h1
  exact h1 st
theorem vx_sastZ {D : va_G} {cl : List vw_C} {ws : va_W} {tys : List (ClassId × FieldType)} {a : Nat} (hexec : p.tables.exec = Jvm.exec) (hb : c.code = cc) (hK : va_K D cl tys s) (hP : va_P D cl ws H) (q0 t0 : Nat) {cA : ClassId} {n : Nat} {f : Nat → Int32} (ha : ws[q0]? = some (a, .inl (cA, n, .inl f))) (ht : tys[t0]? = some (cA, .short)) {i : Int32} {x : Int32} (hout : ¬ vp_in i n) (hdg : decode cc pc = .ok (.sastore, 1))
    (k : ∀ tx : String, tx = (toString "Index " ++ toString i ++ toString " out of bounds for length " ++ toString n : String) → vx_Note p l e R s m args below meth c H locs cells slots Q (F0 m pc ls rest) "java/lang/ArrayIndexOutOfBoundsException" tx) : W p l e R s m args below meth c H locs cells slots Q (F0 m pc ls (.int x :: .int i :: .ref a :: rest)) := by
  intro T hT X
  obtain ⟨t, st, q⟩ := k _ rfl T hT X
  refine ⟨t, ?_, q⟩
  have h1 := X.sastoreOut hexec (by rw [hT]; exact hP q0 _ ha) ((hK.2 t0 _ ht).1 n (fun j => .int (f j))) (j := i) (by show (i < 0 ∨ (arrV _ _ _).slots.size ≤ _); rw [arrV_size]; exact Classical.byContradiction hout) (g := F0 m pc ls (.int x :: .int i :: .ref a :: rest)) rfl (rest := rest) rfl (by rw [hb]; exact hdg) t
  simp only [arrV_size] at h1
  exact h1 st
theorem vx_laldZ {D : va_G} {cl : List vw_C} {ws : va_W} {tys : List (ClassId × FieldType)} {a : Nat} (hexec : p.tables.exec = Jvm.exec) (hb : c.code = cc) (hK : va_K D cl tys s) (hP : va_P D cl ws H) (q0 t0 : Nat) {cA : ClassId} {n : Nat} {f : Nat → Int64} (ha : ws[q0]? = some (a, .inl (cA, n, .inr (.inl f)))) (ht : tys[t0]? = some (cA, .long)) {i : Int32} (hout : ¬ vp_in i n) (hdg : decode cc pc = .ok (.laload, 1))
    (k : ∀ tx : String, tx = (toString "Index " ++ toString i ++ toString " out of bounds for length " ++ toString n : String) → vx_Note p l e R s m args below meth c H locs cells slots Q (F0 m pc ls rest) "java/lang/ArrayIndexOutOfBoundsException" tx) : W p l e R s m args below meth c H locs cells slots Q (F0 m pc ls (.int i :: .ref a :: rest)) := by
  intro T hT X
  obtain ⟨t, st, q⟩ := k _ rfl T hT X
  refine ⟨t, ?_, q⟩
  have h1 := X.laloadOut hexec (by rw [hT]; exact hP q0 _ ha) ((hK.2 t0 _ ht).1 n (fun j => .long (f j))) (j := i) (by show (i < 0 ∨ (arrV _ _ _).slots.size ≤ _); rw [arrV_size]; exact Classical.byContradiction hout) (g := F0 m pc ls (.int i :: .ref a :: rest)) rfl (rest := rest) rfl (by rw [hb]; exact hdg) t
  simp only [arrV_size] at h1
  exact h1 st
theorem vx_lastZ {D : va_G} {cl : List vw_C} {ws : va_W} {tys : List (ClassId × FieldType)} {a : Nat} (hexec : p.tables.exec = Jvm.exec) (hb : c.code = cc) (hK : va_K D cl tys s) (hP : va_P D cl ws H) (q0 t0 : Nat) {cA : ClassId} {n : Nat} {f : Nat → Int64} (ha : ws[q0]? = some (a, .inl (cA, n, .inr (.inl f)))) (ht : tys[t0]? = some (cA, .long)) {i : Int32} {x : Int64} (hout : ¬ vp_in i n) (hdg : decode cc pc = .ok (.lastore, 1))
    (k : ∀ tx : String, tx = (toString "Index " ++ toString i ++ toString " out of bounds for length " ++ toString n : String) → vx_Note p l e R s m args below meth c H locs cells slots Q (F0 m pc ls rest) "java/lang/ArrayIndexOutOfBoundsException" tx) : W p l e R s m args below meth c H locs cells slots Q (F0 m pc ls (.long x :: .int i :: .ref a :: rest)) := by
  intro T hT X
  obtain ⟨t, st, q⟩ := k _ rfl T hT X
  refine ⟨t, ?_, q⟩
  have h1 := X.lastoreOut hexec (by rw [hT]; exact hP q0 _ ha) ((hK.2 t0 _ ht).1 n (fun j => .long (f j))) (j := i) (by show (i < 0 ∨ (arrV _ _ _).slots.size ≤ _); rw [arrV_size]; exact Classical.byContradiction hout) (g := F0 m pc ls (.long x :: .int i :: .ref a :: rest)) rfl (rest := rest) rfl (by rw [hb]; exact hdg) t
  simp only [arrV_size] at h1
  exact h1 st
theorem vx_faldZ {D : va_G} {cl : List vw_C} {ws : va_W} {tys : List (ClassId × FieldType)} {a : Nat} (hexec : p.tables.exec = Jvm.exec) (hb : c.code = cc) (hK : va_K D cl tys s) (hP : va_P D cl ws H) (q0 t0 : Nat) {cA : ClassId} {n : Nat} {f : Nat → UInt32} (ha : ws[q0]? = some (a, .inl (cA, n, .inr (.inr (.inl f))))) (ht : tys[t0]? = some (cA, .float)) {i : Int32} (hout : ¬ vp_in i n) (hdg : decode cc pc = .ok (.faload, 1))
    (k : ∀ tx : String, tx = (toString "Index " ++ toString i ++ toString " out of bounds for length " ++ toString n : String) → vx_Note p l e R s m args below meth c H locs cells slots Q (F0 m pc ls rest) "java/lang/ArrayIndexOutOfBoundsException" tx) : W p l e R s m args below meth c H locs cells slots Q (F0 m pc ls (.int i :: .ref a :: rest)) := by
  intro T hT X
  obtain ⟨t, st, q⟩ := k _ rfl T hT X
  refine ⟨t, ?_, q⟩
  have h1 := X.faloadOut hexec (by rw [hT]; exact hP q0 _ ha) ((hK.2 t0 _ ht).1 n (fun j => .float (f j))) (j := i) (by show (i < 0 ∨ (arrV _ _ _).slots.size ≤ _); rw [arrV_size]; exact Classical.byContradiction hout) (g := F0 m pc ls (.int i :: .ref a :: rest)) rfl (rest := rest) rfl (by rw [hb]; exact hdg) t
  simp only [arrV_size] at h1
  exact h1 st
theorem vx_fastZ {D : va_G} {cl : List vw_C} {ws : va_W} {tys : List (ClassId × FieldType)} {a : Nat} (hexec : p.tables.exec = Jvm.exec) (hb : c.code = cc) (hK : va_K D cl tys s) (hP : va_P D cl ws H) (q0 t0 : Nat) {cA : ClassId} {n : Nat} {f : Nat → UInt32} (ha : ws[q0]? = some (a, .inl (cA, n, .inr (.inr (.inl f))))) (ht : tys[t0]? = some (cA, .float)) {i : Int32} {x : UInt32} (hout : ¬ vp_in i n) (hdg : decode cc pc = .ok (.fastore, 1))
    (k : ∀ tx : String, tx = (toString "Index " ++ toString i ++ toString " out of bounds for length " ++ toString n : String) → vx_Note p l e R s m args below meth c H locs cells slots Q (F0 m pc ls rest) "java/lang/ArrayIndexOutOfBoundsException" tx) : W p l e R s m args below meth c H locs cells slots Q (F0 m pc ls (.float x :: .int i :: .ref a :: rest)) := by
  intro T hT X
  obtain ⟨t, st, q⟩ := k _ rfl T hT X
  refine ⟨t, ?_, q⟩
  have h1 := X.fastoreOut hexec (by rw [hT]; exact hP q0 _ ha) ((hK.2 t0 _ ht).1 n (fun j => .float (f j))) (j := i) (by show (i < 0 ∨ (arrV _ _ _).slots.size ≤ _); rw [arrV_size]; exact Classical.byContradiction hout) (g := F0 m pc ls (.float x :: .int i :: .ref a :: rest)) rfl (rest := rest) rfl (by rw [hb]; exact hdg) t
  simp only [arrV_size] at h1
  exact h1 st
theorem vx_daldZ {D : va_G} {cl : List vw_C} {ws : va_W} {tys : List (ClassId × FieldType)} {a : Nat} (hexec : p.tables.exec = Jvm.exec) (hb : c.code = cc) (hK : va_K D cl tys s) (hP : va_P D cl ws H) (q0 t0 : Nat) {cA : ClassId} {n : Nat} {f : Nat → UInt64} (ha : ws[q0]? = some (a, .inl (cA, n, .inr (.inr (.inr (.inl f)))))) (ht : tys[t0]? = some (cA, .double)) {i : Int32} (hout : ¬ vp_in i n) (hdg : decode cc pc = .ok (.daload, 1))
    (k : ∀ tx : String, tx = (toString "Index " ++ toString i ++ toString " out of bounds for length " ++ toString n : String) → vx_Note p l e R s m args below meth c H locs cells slots Q (F0 m pc ls rest) "java/lang/ArrayIndexOutOfBoundsException" tx) : W p l e R s m args below meth c H locs cells slots Q (F0 m pc ls (.int i :: .ref a :: rest)) := by
  intro T hT X
  obtain ⟨t, st, q⟩ := k _ rfl T hT X
  refine ⟨t, ?_, q⟩
  have h1 := X.daloadOut hexec (by rw [hT]; exact hP q0 _ ha) ((hK.2 t0 _ ht).1 n (fun j => .double (f j))) (j := i) (by show (i < 0 ∨ (arrV _ _ _).slots.size ≤ _); rw [arrV_size]; exact Classical.byContradiction hout) (g := F0 m pc ls (.int i :: .ref a :: rest)) rfl (rest := rest) rfl (by rw [hb]; exact hdg) t
  simp only [arrV_size] at h1
  exact h1 st
theorem vx_dastZ {D : va_G} {cl : List vw_C} {ws : va_W} {tys : List (ClassId × FieldType)} {a : Nat} (hexec : p.tables.exec = Jvm.exec) (hb : c.code = cc) (hK : va_K D cl tys s) (hP : va_P D cl ws H) (q0 t0 : Nat) {cA : ClassId} {n : Nat} {f : Nat → UInt64} (ha : ws[q0]? = some (a, .inl (cA, n, .inr (.inr (.inr (.inl f)))))) (ht : tys[t0]? = some (cA, .double)) {i : Int32} {x : UInt64} (hout : ¬ vp_in i n) (hdg : decode cc pc = .ok (.dastore, 1))
    (k : ∀ tx : String, tx = (toString "Index " ++ toString i ++ toString " out of bounds for length " ++ toString n : String) → vx_Note p l e R s m args below meth c H locs cells slots Q (F0 m pc ls rest) "java/lang/ArrayIndexOutOfBoundsException" tx) : W p l e R s m args below meth c H locs cells slots Q (F0 m pc ls (.double x :: .int i :: .ref a :: rest)) := by
  intro T hT X
  obtain ⟨t, st, q⟩ := k _ rfl T hT X
  refine ⟨t, ?_, q⟩
  have h1 := X.dastoreOut hexec (by rw [hT]; exact hP q0 _ ha) ((hK.2 t0 _ ht).1 n (fun j => .double (f j))) (j := i) (by show (i < 0 ∨ (arrV _ _ _).slots.size ≤ _); rw [arrV_size]; exact Classical.byContradiction hout) (g := F0 m pc ls (.double x :: .int i :: .ref a :: rest)) rfl (rest := rest) rfl (by rw [hb]; exact hdg) t
  simp only [arrV_size] at h1
  exact h1 st
theorem vx_arraylengthN (hexec : p.tables.exec = Jvm.exec) (hb : c.code = cc) (hdg : decode cc pc = .ok (.arraylength, 1)) (k : vx_NoteN p l e R s m args below meth c H locs cells slots Q (F0 m pc ls rest)) : W p l e R s m args below meth c H locs cells slots Q (F0 m pc ls (.null :: rest)) := by
  intro T hT X
  obtain ⟨t, st, q⟩ := k T hT X
  exact ⟨t, X.arraylengthNull hexec (g := F0 m pc ls (.null :: rest)) rfl (rest := rest) rfl (by rw [hb]; exact hdg) t st, q⟩
theorem vx_ialoadN (hexec : p.tables.exec = Jvm.exec) (hb : c.code = cc) {i : Int32} (hdg : decode cc pc = .ok (.iaload, 1)) (k : vx_NoteN p l e R s m args below meth c H locs cells slots Q (F0 m pc ls rest)) : W p l e R s m args below meth c H locs cells slots Q (F0 m pc ls (.int i :: .null :: rest)) := by
  intro T hT X
  obtain ⟨t, st, q⟩ := k T hT X
  exact ⟨t, X.ialoadNull hexec (g := F0 m pc ls (.int i :: .null :: rest)) rfl (rest := rest) rfl (by rw [hb]; exact hdg) t st, q⟩
theorem vx_laloadN (hexec : p.tables.exec = Jvm.exec) (hb : c.code = cc) {i : Int32} (hdg : decode cc pc = .ok (.laload, 1)) (k : vx_NoteN p l e R s m args below meth c H locs cells slots Q (F0 m pc ls rest)) : W p l e R s m args below meth c H locs cells slots Q (F0 m pc ls (.int i :: .null :: rest)) := by
  intro T hT X
  obtain ⟨t, st, q⟩ := k T hT X
  exact ⟨t, X.laloadNull hexec (g := F0 m pc ls (.int i :: .null :: rest)) rfl (rest := rest) rfl (by rw [hb]; exact hdg) t st, q⟩
theorem vx_faloadN (hexec : p.tables.exec = Jvm.exec) (hb : c.code = cc) {i : Int32} (hdg : decode cc pc = .ok (.faload, 1)) (k : vx_NoteN p l e R s m args below meth c H locs cells slots Q (F0 m pc ls rest)) : W p l e R s m args below meth c H locs cells slots Q (F0 m pc ls (.int i :: .null :: rest)) := by
  intro T hT X
  obtain ⟨t, st, q⟩ := k T hT X
  exact ⟨t, X.faloadNull hexec (g := F0 m pc ls (.int i :: .null :: rest)) rfl (rest := rest) rfl (by rw [hb]; exact hdg) t st, q⟩
theorem vx_daloadN (hexec : p.tables.exec = Jvm.exec) (hb : c.code = cc) {i : Int32} (hdg : decode cc pc = .ok (.daload, 1)) (k : vx_NoteN p l e R s m args below meth c H locs cells slots Q (F0 m pc ls rest)) : W p l e R s m args below meth c H locs cells slots Q (F0 m pc ls (.int i :: .null :: rest)) := by
  intro T hT X
  obtain ⟨t, st, q⟩ := k T hT X
  exact ⟨t, X.daloadNull hexec (g := F0 m pc ls (.int i :: .null :: rest)) rfl (rest := rest) rfl (by rw [hb]; exact hdg) t st, q⟩
theorem vx_aaloadN (hexec : p.tables.exec = Jvm.exec) (hb : c.code = cc) {i : Int32} (hdg : decode cc pc = .ok (.aaload, 1)) (k : vx_NoteN p l e R s m args below meth c H locs cells slots Q (F0 m pc ls rest)) : W p l e R s m args below meth c H locs cells slots Q (F0 m pc ls (.int i :: .null :: rest)) := by
  intro T hT X
  obtain ⟨t, st, q⟩ := k T hT X
  exact ⟨t, X.aaloadNull hexec (g := F0 m pc ls (.int i :: .null :: rest)) rfl (rest := rest) rfl (by rw [hb]; exact hdg) t st, q⟩
theorem vx_baloadN (hexec : p.tables.exec = Jvm.exec) (hb : c.code = cc) {i : Int32} (hdg : decode cc pc = .ok (.baload, 1)) (k : vx_NoteN p l e R s m args below meth c H locs cells slots Q (F0 m pc ls rest)) : W p l e R s m args below meth c H locs cells slots Q (F0 m pc ls (.int i :: .null :: rest)) := by
  intro T hT X
  obtain ⟨t, st, q⟩ := k T hT X
  exact ⟨t, X.baloadNull hexec (g := F0 m pc ls (.int i :: .null :: rest)) rfl (rest := rest) rfl (by rw [hb]; exact hdg) t st, q⟩
theorem vx_caloadN (hexec : p.tables.exec = Jvm.exec) (hb : c.code = cc) {i : Int32} (hdg : decode cc pc = .ok (.caload, 1)) (k : vx_NoteN p l e R s m args below meth c H locs cells slots Q (F0 m pc ls rest)) : W p l e R s m args below meth c H locs cells slots Q (F0 m pc ls (.int i :: .null :: rest)) := by
  intro T hT X
  obtain ⟨t, st, q⟩ := k T hT X
  exact ⟨t, X.caloadNull hexec (g := F0 m pc ls (.int i :: .null :: rest)) rfl (rest := rest) rfl (by rw [hb]; exact hdg) t st, q⟩
theorem vx_saloadN (hexec : p.tables.exec = Jvm.exec) (hb : c.code = cc) {i : Int32} (hdg : decode cc pc = .ok (.saload, 1)) (k : vx_NoteN p l e R s m args below meth c H locs cells slots Q (F0 m pc ls rest)) : W p l e R s m args below meth c H locs cells slots Q (F0 m pc ls (.int i :: .null :: rest)) := by
  intro T hT X
  obtain ⟨t, st, q⟩ := k T hT X
  exact ⟨t, X.saloadNull hexec (g := F0 m pc ls (.int i :: .null :: rest)) rfl (rest := rest) rfl (by rw [hb]; exact hdg) t st, q⟩
theorem vx_iastoreN (hexec : p.tables.exec = Jvm.exec) (hb : c.code = cc) {x : Int32} {i : Int32} (hdg : decode cc pc = .ok (.iastore, 1)) (k : vx_NoteN p l e R s m args below meth c H locs cells slots Q (F0 m pc ls rest)) : W p l e R s m args below meth c H locs cells slots Q (F0 m pc ls (.int x :: .int i :: .null :: rest)) := by
  intro T hT X
  obtain ⟨t, st, q⟩ := k T hT X
  exact ⟨t, X.iastoreNull hexec (g := F0 m pc ls (.int x :: .int i :: .null :: rest)) rfl (rest := rest) rfl (by rw [hb]; exact hdg) t st, q⟩
theorem vx_lastoreN (hexec : p.tables.exec = Jvm.exec) (hb : c.code = cc) {x : Int64} {i : Int32} (hdg : decode cc pc = .ok (.lastore, 1)) (k : vx_NoteN p l e R s m args below meth c H locs cells slots Q (F0 m pc ls rest)) : W p l e R s m args below meth c H locs cells slots Q (F0 m pc ls (.long x :: .int i :: .null :: rest)) := by
  intro T hT X
  obtain ⟨t, st, q⟩ := k T hT X
  exact ⟨t, X.lastoreNull hexec (g := F0 m pc ls (.long x :: .int i :: .null :: rest)) rfl (rest := rest) rfl (by rw [hb]; exact hdg) t st, q⟩
theorem vx_fastoreN (hexec : p.tables.exec = Jvm.exec) (hb : c.code = cc) {x : UInt32} {i : Int32} (hdg : decode cc pc = .ok (.fastore, 1)) (k : vx_NoteN p l e R s m args below meth c H locs cells slots Q (F0 m pc ls rest)) : W p l e R s m args below meth c H locs cells slots Q (F0 m pc ls (.float x :: .int i :: .null :: rest)) := by
  intro T hT X
  obtain ⟨t, st, q⟩ := k T hT X
  exact ⟨t, X.fastoreNull hexec (g := F0 m pc ls (.float x :: .int i :: .null :: rest)) rfl (rest := rest) rfl (by rw [hb]; exact hdg) t st, q⟩
theorem vx_dastoreN (hexec : p.tables.exec = Jvm.exec) (hb : c.code = cc) {x : UInt64} {i : Int32} (hdg : decode cc pc = .ok (.dastore, 1)) (k : vx_NoteN p l e R s m args below meth c H locs cells slots Q (F0 m pc ls rest)) : W p l e R s m args below meth c H locs cells slots Q (F0 m pc ls (.double x :: .int i :: .null :: rest)) := by
  intro T hT X
  obtain ⟨t, st, q⟩ := k T hT X
  exact ⟨t, X.dastoreNull hexec (g := F0 m pc ls (.double x :: .int i :: .null :: rest)) rfl (rest := rest) rfl (by rw [hb]; exact hdg) t st, q⟩
theorem vx_bastoreN (hexec : p.tables.exec = Jvm.exec) (hb : c.code = cc) {x : Int32} {i : Int32} (hdg : decode cc pc = .ok (.bastore, 1)) (k : vx_NoteN p l e R s m args below meth c H locs cells slots Q (F0 m pc ls rest)) : W p l e R s m args below meth c H locs cells slots Q (F0 m pc ls (.int x :: .int i :: .null :: rest)) := by
  intro T hT X
  obtain ⟨t, st, q⟩ := k T hT X
  exact ⟨t, X.bastoreNull hexec (g := F0 m pc ls (.int x :: .int i :: .null :: rest)) rfl (rest := rest) rfl (by rw [hb]; exact hdg) t st, q⟩
theorem vx_castoreN (hexec : p.tables.exec = Jvm.exec) (hb : c.code = cc) {x : Int32} {i : Int32} (hdg : decode cc pc = .ok (.castore, 1)) (k : vx_NoteN p l e R s m args below meth c H locs cells slots Q (F0 m pc ls rest)) : W p l e R s m args below meth c H locs cells slots Q (F0 m pc ls (.int x :: .int i :: .null :: rest)) := by
  intro T hT X
  obtain ⟨t, st, q⟩ := k T hT X
  exact ⟨t, X.castoreNull hexec (g := F0 m pc ls (.int x :: .int i :: .null :: rest)) rfl (rest := rest) rfl (by rw [hb]; exact hdg) t st, q⟩
theorem vx_sastoreN (hexec : p.tables.exec = Jvm.exec) (hb : c.code = cc) {x : Int32} {i : Int32} (hdg : decode cc pc = .ok (.sastore, 1)) (k : vx_NoteN p l e R s m args below meth c H locs cells slots Q (F0 m pc ls rest)) : W p l e R s m args below meth c H locs cells slots Q (F0 m pc ls (.int x :: .int i :: .null :: rest)) := by
  intro T hT X
  obtain ⟨t, st, q⟩ := k T hT X
  exact ⟨t, X.sastoreNull hexec (g := F0 m pc ls (.int x :: .int i :: .null :: rest)) rfl (rest := rest) rfl (by rw [hb]; exact hdg) t st, q⟩
theorem vx_invokeN {own C : String} {index maxL : Nat} {y : MethodName} {bytes : ByteArray} {ret : Option FieldType} (hexec : p.tables.exec = Jvm.exec) (hb : c.code = cc) (hown : s.vm.findClass own = some m.cls) (hlink : (Cond.methodLink own index y).before args s = true) (hinst : (Cond.instanceMethod y).before args s = true) (hcode : (Cond.code y bytes maxL ret).before args s = true) (hsel : (Cond.selects C y y).before args s = true)
    (hx : y.cls ≠ "java/lang/invoke/MethodHandle" ∧ y.cls ≠ "java/lang/invoke/VarHandle") {As : List Value} (hlen : (parseMethodDescriptor y.desc).map (fun d => d.parameters.length) = some As.length) (hdg : decode cc pc = .ok (.invokevirtual index, 3))
    (k : vx_NoteN p l e R s m args below meth c H locs cells slots Q (F0 m pc ls rest)) {st0 : List Value} (hst : st0 = As.reverse ++ .null :: rest) : W p l e R s m args below meth c H locs cells slots Q (F0 m pc ls st0) := by
  intro T hT X
  obtain ⟨r0, r, hn, hrm, hstR, hsigR⟩ := va_Decl.of hinst hcode
  obtain ⟨c2, r2, m2, q1, q2, q3, q4, kP, hkP, hkPi⟩ := Cond.selects_spec hsel
  cases hn.symm.trans q3
  have hl9 : As.length = r.sig.parameters.length := by
    rw [hsigR] at hlen
    exact (Option.some.inj hlen).symm
  obtain ⟨vm', X1, st1⟩ := X.invokevirtualNull hexec hown hlink hn hrm hstR hkP hkPi hx (g := F0 m pc ls st0) rfl (argsL := As) (rest := rest) hl9 hst (by rw [hb]; exact hdg)
  obtain ⟨t, st, q⟩ := k (T.setVm vm') hT X1
  exact ⟨t, st1 t st, q⟩
theorem vx_newarrayZ {atype : ArrayType} (hexec : p.tables.exec = Jvm.exec) (hb : c.code = cc) {n : Int32} (h0 : n < 0) (hdg : decode cc pc = .ok (.newarray atype, 2)) (k : ∀ tx : String, tx = toString n → vx_Note p l e R s m args below meth c H locs cells slots Q (F0 m pc ls rest) "java/lang/NegativeArraySizeException" tx) : W p l e R s m args below meth c H locs cells slots Q (F0 m pc ls (.int n :: rest)) := by
  intro T hT X
  obtain ⟨t, st, q⟩ := k _ rfl T hT X
  exact ⟨t, X.newarrayNegative hexec (g := F0 m pc ls (.int n :: rest)) rfl h0 (rest := rest) rfl (by rw [hb]; exact hdg) t st, q⟩
end
end VXM
/-! ===== END ===== -/
end
section
/-! names, fields, types: out of the printed names -/
def RX0 : String := "PetitionBoard$Citing"
def TX0 : u_T := fun k => match k with
  | _ => ("", "", "", false)
def tyX0 : Nat → FieldType := fun k => match k with
  | _ => .int
abbrev wsX00 : List Cond := u_ws RX0 TX0 0
theorem nmX0 : ∀ a, a < 0 → ∀ b, b < 0 → a ≠ b → (TX0 a).2.1 ≠ (TX0 b).2.1 := by decide +kernel
theorem tyX0_ok : ∀ k, k < 0 → parseFieldDescriptor (TX0 k).2.2.1 = some (tyX0 k) := by decide +kernel
abbrev cX0_init : ByteArray := prog_2_method_1_code
def yX0_init : MethodName := ⟨RX0, "<init>", "()V"⟩
abbrev cX0_citedAt : ByteArray := prog_2_method_2_code
def yX0_citedAt : MethodName := ⟨RX0, "citedAt", "(I)I"⟩
abbrev cX0_refersTo : ByteArray := prog_2_method_3_code
def yX0_refersTo : MethodName := ⟨RX0, "refersTo", "(I)Z"⟩
abbrev cX0_addCited : ByteArray := prog_2_method_4_code
def yX0_addCited : MethodName := ⟨RX0, "addCited", "(I)V"⟩
abbrev cX0_copyCited : ByteArray := prog_2_method_5_code
def yX0_copyCited : MethodName := ⟨RX0, "copyCited", "(LPetitionBoard$Citing;)V"⟩
def RX1 : String := "PetitionBoard$Command"
def TX1 : u_T := fun k => match k with
  | 0 => ("PetitionBoard$Command", "letter", "C", false)
  | 1 => ("PetitionBoard$Command", "first", "I", false)
  | 2 => ("PetitionBoard$Command", "second", "I", false)
  | 3 => ("PetitionBoard$Command", "third", "I", false)
  | 4 => ("PetitionBoard$Command", "fourth", "I", false)
  | _ => ("PetitionBoard$Command", "values", "I", false)
def tyX1 : Nat → FieldType := fun k => match k with
  | 0 => .char
  | 1 => .int
  | 2 => .int
  | 3 => .int
  | 4 => .int
  | _ => .int
abbrev wsX10 : List Cond := u_ws RX1 TX1 6
theorem nmX1 : ∀ a, a < 6 → ∀ b, b < 6 → a ≠ b → (TX1 a).2.1 ≠ (TX1 b).2.1 := by decide +kernel
theorem tyX1_ok : ∀ k, k < 6 → parseFieldDescriptor (TX1 k).2.2.1 = some (tyX1 k) := by decide +kernel
abbrev cX1_init : ByteArray := prog_3_method_1_code
def yX1_init : MethodName := ⟨RX1, "<init>", "()V"⟩
abbrev cX1_begin : ByteArray := prog_3_method_2_code
def yX1_begin : MethodName := ⟨RX1, "begin", "(C)V"⟩
abbrev cX1_add : ByteArray := prog_3_method_3_code
def yX1_add : MethodName := ⟨RX1, "add", "(I)V"⟩
def RX2 : String := "PetitionBoard$History"
def TX2 : u_T := fun k => match k with
  | 0 => ("PetitionBoard$History", "rows", "[LPetitionBoard$State;", true)
  | _ => ("PetitionBoard$History", "count", "I", false)
def tyX2 : Nat → FieldType := fun k => match k with
  | 0 => .array (.object "PetitionBoard$State")
  | _ => .int
abbrev wsX20 : List Cond := u_ws RX2 TX2 2
theorem nmX2 : ∀ a, a < 2 → ∀ b, b < 2 → a ≠ b → (TX2 a).2.1 ≠ (TX2 b).2.1 := by decide +kernel
theorem tyX2_ok : ∀ k, k < 2 → parseFieldDescriptor (TX2 k).2.2.1 = some (tyX2 k) := by decide +kernel
abbrev cX2_init : ByteArray := prog_4_method_1_code
def yX2_init : MethodName := ⟨RX2, "<init>", "()V"⟩
abbrev cX2_prepare : ByteArray := prog_4_method_2_code
def yX2_prepare : MethodName := ⟨RX2, "prepare", "(LPetitionBoard$State;)V"⟩
abbrev cX2_bringBackPrepared : ByteArray := prog_4_method_3_code
def yX2_bringBackPrepared : MethodName := ⟨RX2, "bringBackPrepared", "(LPetitionBoard$State;)V"⟩
abbrev cX2_keepPrepared : ByteArray := prog_4_method_4_code
def yX2_keepPrepared : MethodName := ⟨RX2, "keepPrepared", "()V"⟩
abbrev cX2_bringBackLatest : ByteArray := prog_4_method_5_code
def yX2_bringBackLatest : MethodName := ⟨RX2, "bringBackLatest", "(LPetitionBoard$State;)V"⟩
abbrev cX2_forget : ByteArray := prog_4_method_6_code
def yX2_forget : MethodName := ⟨RX2, "forget", "()V"⟩
def RX3 : String := "PetitionBoard$Line"
def TX3 : u_T := fun k => match k with
  | 0 => ("PetitionBoard$Line", "characters", "[C", true)
  | _ => ("PetitionBoard$Line", "length", "I", false)
def tyX3 : Nat → FieldType := fun k => match k with
  | 0 => .array .char
  | _ => .int
abbrev wsX30 : List Cond := u_ws RX3 TX3 2
theorem nmX3 : ∀ a, a < 2 → ∀ b, b < 2 → a ≠ b → (TX3 a).2.1 ≠ (TX3 b).2.1 := by decide +kernel
theorem tyX3_ok : ∀ k, k < 2 → parseFieldDescriptor (TX3 k).2.2.1 = some (tyX3 k) := by decide +kernel
abbrev cX3_init : ByteArray := prog_5_method_1_code
def yX3_init : MethodName := ⟨RX3, "<init>", "()V"⟩
abbrev cX3_clear : ByteArray := prog_5_method_2_code
def yX3_clear : MethodName := ⟨RX3, "clear", "()V"⟩
abbrev cX3_put : ByteArray := prog_5_method_3_code
def yX3_put : MethodName := ⟨RX3, "put", "(C)V"⟩
abbrev cX3_putMarked : ByteArray := prog_5_method_4_code
def yX3_putMarked : MethodName := ⟨RX3, "putMarked", "(CI)V"⟩
abbrev cX3_putNumber : ByteArray := prog_5_method_5_code
def yX3_putNumber : MethodName := ⟨RX3, "putNumber", "(I)V"⟩
abbrev cX3_at : ByteArray := prog_5_method_6_code
def yX3_at : MethodName := ⟨RX3, "at", "(I)C"⟩
def RX4 : String := "PetitionBoard$Petition"
def TX4 : u_T := fun k => match k with
  | 0 => ("PetitionBoard$Citing", "cited", "I", false)
  | 1 => ("PetitionBoard$Citing", "firstCited", "I", false)
  | 2 => ("PetitionBoard$Citing", "secondCited", "I", false)
  | 3 => ("PetitionBoard$Citing", "thirdCited", "I", false)
  | 4 => ("PetitionBoard$Petition", "number", "I", false)
  | 5 => ("PetitionBoard$Petition", "petitioner", "I", false)
  | 6 => ("PetitionBoard$Petition", "rank", "I", false)
  | 7 => ("PetitionBoard$Petition", "stone", "I", false)
  | 8 => ("PetitionBoard$Petition", "target", "I", false)
  | 9 => ("PetitionBoard$Petition", "urgency", "I", false)
  | 10 => ("PetitionBoard$Petition", "votersFor", "I", false)
  | _ => ("PetitionBoard$Petition", "votersAgainst", "I", false)
def tyX4 : Nat → FieldType := fun k => match k with
  | 0 => .int
  | 1 => .int
  | 2 => .int
  | 3 => .int
  | 4 => .int
  | 5 => .int
  | 6 => .int
  | 7 => .int
  | 8 => .int
  | 9 => .int
  | 10 => .int
  | _ => .int
abbrev wsX40 : List Cond := u_ws RX4 TX4 12
theorem nmX4 : ∀ a, a < 12 → ∀ b, b < 12 → a ≠ b → (TX4 a).2.1 ≠ (TX4 b).2.1 := by decide +kernel
theorem tyX4_ok : ∀ k, k < 12 → parseFieldDescriptor (TX4 k).2.2.1 = some (tyX4 k) := by decide +kernel
abbrev cX4_init : ByteArray := prog_6_method_1_code
def yX4_init : MethodName := ⟨RX4, "<init>", "()V"⟩
abbrev cX4_forgetVotesAndCitations : ByteArray := prog_6_method_2_code
def yX4_forgetVotesAndCitations : MethodName := ⟨RX4, "forgetVotesAndCitations", "()V"⟩
abbrev cX4_comesBefore : ByteArray := prog_6_method_3_code
def yX4_comesBefore : MethodName := ⟨RX4, "comesBefore", "(LPetitionBoard$Petition;)Z"⟩
abbrev cX4_hasVoteFor : ByteArray := prog_6_method_4_code
def yX4_hasVoteFor : MethodName := ⟨RX4, "hasVoteFor", "(I)Z"⟩
abbrev cX4_hasVoteAgainst : ByteArray := prog_6_method_5_code
def yX4_hasVoteAgainst : MethodName := ⟨RX4, "hasVoteAgainst", "(I)Z"⟩
abbrev cX4_addVote : ByteArray := prog_6_method_6_code
def yX4_addVote : MethodName := ⟨RX4, "addVote", "(IZ)V"⟩
abbrev cX4_countFor : ByteArray := prog_6_method_7_code
def yX4_countFor : MethodName := ⟨RX4, "countFor", "()I"⟩
abbrev cX4_countAgainst : ByteArray := prog_6_method_8_code
def yX4_countAgainst : MethodName := ⟨RX4, "countAgainst", "()I"⟩
abbrev cX4_countVotes : ByteArray := prog_6_method_9_code
def yX4_countVotes : MethodName := ⟨RX4, "countVotes", "()I"⟩
abbrev cX4_copyFrom : ByteArray := prog_6_method_10_code
def yX4_copyFrom : MethodName := ⟨RX4, "copyFrom", "(LPetitionBoard$Petition;)V"⟩
def RX5 : String := "PetitionBoard$Ruling"
def TX5 : u_T := fun k => match k with
  | 0 => ("PetitionBoard$Citing", "cited", "I", false)
  | 1 => ("PetitionBoard$Citing", "firstCited", "I", false)
  | 2 => ("PetitionBoard$Citing", "secondCited", "I", false)
  | 3 => ("PetitionBoard$Citing", "thirdCited", "I", false)
  | 4 => ("PetitionBoard$Ruling", "granted", "Z", false)
  | 5 => ("PetitionBoard$Ruling", "carriedOut", "Z", false)
  | _ => ("PetitionBoard$Ruling", "level", "I", false)
def tyX5 : Nat → FieldType := fun k => match k with
  | 0 => .int
  | 1 => .int
  | 2 => .int
  | 3 => .int
  | 4 => .boolean
  | 5 => .boolean
  | _ => .int
abbrev wsX50 : List Cond := u_ws RX5 TX5 7
theorem nmX5 : ∀ a, a < 7 → ∀ b, b < 7 → a ≠ b → (TX5 a).2.1 ≠ (TX5 b).2.1 := by decide +kernel
theorem tyX5_ok : ∀ k, k < 7 → parseFieldDescriptor (TX5 k).2.2.1 = some (tyX5 k) := by decide +kernel
abbrev cX5_init : ByteArray := prog_7_method_1_code
def yX5_init : MethodName := ⟨RX5, "<init>", "()V"⟩
abbrev cX5_copyFrom : ByteArray := prog_7_method_2_code
def yX5_copyFrom : MethodName := ⟨RX5, "copyFrom", "(LPetitionBoard$Ruling;)V"⟩
def RX6 : String := "PetitionBoard$State"
def TX6 : u_T := fun k => match k with
  | 0 => ("PetitionBoard$State", "stoneCell", "[I", true)
  | 1 => ("PetitionBoard$State", "stoneWeight", "[I", true)
  | 2 => ("PetitionBoard$State", "officerRank", "[I", true)
  | 3 => ("PetitionBoard$State", "pending", "[LPetitionBoard$Petition;", true)
  | 4 => ("PetitionBoard$State", "rulings", "[LPetitionBoard$Ruling;", true)
  | 5 => ("PetitionBoard$State", "stoneCount", "I", false)
  | 6 => ("PetitionBoard$State", "officerCount", "I", false)
  | 7 => ("PetitionBoard$State", "pendingCount", "I", false)
  | 8 => ("PetitionBoard$State", "rulingCount", "I", false)
  | 9 => ("PetitionBoard$State", "quorum", "I", false)
  | 10 => ("PetitionBoard$State", "filedCount", "I", false)
  | 11 => ("PetitionBoard$State", "vetoCount", "I", false)
  | 12 => ("PetitionBoard$State", "withdrawalCount", "I", false)
  | _ => ("PetitionBoard$State", "movedWeight", "I", false)
def tyX6 : Nat → FieldType := fun k => match k with
  | 0 => .array .int
  | 1 => .array .int
  | 2 => .array .int
  | 3 => .array (.object "PetitionBoard$Petition")
  | 4 => .array (.object "PetitionBoard$Ruling")
  | 5 => .int
  | 6 => .int
  | 7 => .int
  | 8 => .int
  | 9 => .int
  | 10 => .int
  | 11 => .int
  | 12 => .int
  | _ => .int
abbrev wsX60 : List Cond := u_ws RX6 TX6 14
theorem nmX6 : ∀ a, a < 14 → ∀ b, b < 14 → a ≠ b → (TX6 a).2.1 ≠ (TX6 b).2.1 := by decide +kernel
theorem tyX6_ok : ∀ k, k < 14 → parseFieldDescriptor (TX6 k).2.2.1 = some (tyX6 k) := by decide +kernel
abbrev cX6_init : ByteArray := prog_8_method_1_code
def yX6_init : MethodName := ⟨RX6, "<init>", "()V"⟩
abbrev cX6_copyFrom : ByteArray := prog_8_method_2_code
def yX6_copyFrom : MethodName := ⟨RX6, "copyFrom", "(LPetitionBoard$State;)V"⟩
abbrev cX6_hasStone : ByteArray := prog_8_method_3_code
def yX6_hasStone : MethodName := ⟨RX6, "hasStone", "(I)Z"⟩
abbrev cX6_hasOfficer : ByteArray := prog_8_method_4_code
def yX6_hasOfficer : MethodName := ⟨RX6, "hasOfficer", "(I)Z"⟩
abbrev cX6_findStoneIn : ByteArray := prog_8_method_5_code
def yX6_findStoneIn : MethodName := ⟨RX6, "findStoneIn", "(I)I"⟩
abbrev cX6_findPetition : ByteArray := prog_8_method_6_code
def yX6_findPetition : MethodName := ⟨RX6, "findPetition", "(I)LPetitionBoard$Petition;"⟩
abbrev cX6_findPetitionFor : ByteArray := prog_8_method_7_code
def yX6_findPetitionFor : MethodName := ⟨RX6, "findPetitionFor", "(I)LPetitionBoard$Petition;"⟩
abbrev cX6_findRuling : ByteArray := prog_8_method_8_code
def yX6_findRuling : MethodName := ⟨RX6, "findRuling", "(I)LPetitionBoard$Ruling;"⟩
abbrev cX6_appendStone : ByteArray := prog_8_method_9_code
def yX6_appendStone : MethodName := ⟨RX6, "appendStone", "(II)I"⟩
abbrev cX6_appendOfficer : ByteArray := prog_8_method_10_code
def yX6_appendOfficer : MethodName := ⟨RX6, "appendOfficer", "(I)I"⟩
abbrev cX6_enqueue : ByteArray := prog_8_method_11_code
def yX6_enqueue : MethodName := ⟨RX6, "enqueue", "(IIII)I"⟩
abbrev cX6_moveToItsPosition : ByteArray := prog_8_method_12_code
def yX6_moveToItsPosition : MethodName := ⟨RX6, "moveToItsPosition", "(LPetitionBoard$Petition;)V"⟩
abbrev cX6_dequeue : ByteArray := prog_8_method_13_code
def yX6_dequeue : MethodName := ⟨RX6, "dequeue", "(LPetitionBoard$Petition;)V"⟩
abbrev cX6_isWon : ByteArray := prog_8_method_14_code
def yX6_isWon : MethodName := ⟨RX6, "isWon", "(LPetitionBoard$Petition;)Z"⟩
abbrev cX6_rule : ByteArray := prog_8_method_15_code
def yX6_rule : MethodName := ⟨RX6, "rule", "(LPetitionBoard$Petition;)I"⟩
abbrev cX6_levelAbove : ByteArray := prog_8_method_16_code
def yX6_levelAbove : MethodName := ⟨RX6, "levelAbove", "(LPetitionBoard$Citing;)I"⟩
abbrev cX6_moveStone : ByteArray := prog_8_method_17_code
def yX6_moveStone : MethodName := ⟨RX6, "moveStone", "(II)V"⟩
abbrev cX6_restsOn : ByteArray := prog_8_method_18_code
def yX6_restsOn : MethodName := ⟨RX6, "restsOn", "(II)Z"⟩
abbrev cX6_countMarked : ByteArray := prog_8_method_19_code
def yX6_countMarked : MethodName := ⟨RX6, "countMarked", "(I)I"⟩
abbrev cX6_citedSet : ByteArray := prog_8_method_20_code
def yX6_citedSet : MethodName := ⟨RX6, "citedSet", "(I)I"⟩
def RX7 : String := "PetitionBoard$TextReader"
def TX7 : u_T := fun k => match k with
  | 0 => ("PetitionBoard$TextReader", "commands", "[LPetitionBoard$Command;", true)
  | 1 => ("PetitionBoard$TextReader", "count", "I", false)
  | _ => ("PetitionBoard$TextReader", "place", "I", false)
def tyX7 : Nat → FieldType := fun k => match k with
  | 0 => .array (.object "PetitionBoard$Command")
  | 1 => .int
  | _ => .int
abbrev wsX70 : List Cond := u_ws RX7 TX7 3
theorem nmX7 : ∀ a, a < 3 → ∀ b, b < 3 → a ≠ b → (TX7 a).2.1 ≠ (TX7 b).2.1 := by decide +kernel
theorem tyX7_ok : ∀ k, k < 3 → parseFieldDescriptor (TX7 k).2.2.1 = some (tyX7 k) := by decide +kernel
abbrev cX7_init : ByteArray := prog_9_method_1_code
def yX7_init : MethodName := ⟨RX7, "<init>", "()V"⟩
abbrev cX7_read : ByteArray := prog_9_method_2_code
def yX7_read : MethodName := ⟨RX7, "read", "(LPetitionBoard$Line;)Z"⟩
abbrev cX7_readCommand : ByteArray := prog_9_method_3_code
def yX7_readCommand : MethodName := ⟨RX7, "readCommand", "(LPetitionBoard$Line;LPetitionBoard$Command;)Z"⟩
abbrev cX7_readPart : ByteArray := prog_9_method_4_code
def yX7_readPart : MethodName := ⟨RX7, "readPart", "(LPetitionBoard$Line;LPetitionBoard$Command;C)Z"⟩
abbrev cX7_patternOf : ByteArray := prog_9_method_5_code
def yX7_patternOf : MethodName := ⟨RX7, "patternOf", "(C)Ljava/lang/String;"⟩
abbrev cX7_readSign : ByteArray := prog_9_method_6_code
def yX7_readSign : MethodName := ⟨RX7, "readSign", "(LPetitionBoard$Line;C)Z"⟩
abbrev cX7_readValue : ByteArray := prog_9_method_7_code
def yX7_readValue : MethodName := ⟨RX7, "readValue", "(LPetitionBoard$Line;LPetitionBoard$Command;Z)Z"⟩
abbrev cX7_isDigit : ByteArray := prog_9_method_8_code
def yX7_isDigit : MethodName := ⟨RX7, "isDigit", "(C)Z"⟩
def RX8 : String := "PetitionBoard"
def TX8 : u_T := fun k => match k with
  | 0 => ("PetitionBoard", "state", "LPetitionBoard$State;", true)
  | 1 => ("PetitionBoard", "snapshot", "LPetitionBoard$State;", true)
  | 2 => ("PetitionBoard", "history", "LPetitionBoard$History;", true)
  | 3 => ("PetitionBoard", "text", "LPetitionBoard$Line;", true)
  | 4 => ("PetitionBoard", "output", "LPetitionBoard$Line;", true)
  | 5 => ("PetitionBoard", "reader", "LPetitionBoard$TextReader;", true)
  | 6 => ("PetitionBoard", "influences", "[I", true)
  | 7 => ("PetitionBoard", "hasSnapshot", "Z", false)
  | 8 => ("PetitionBoard", "keptFault", "I", false)
  | 9 => ("PetitionBoard", "reason", "I", false)
  | 10 => ("PetitionBoard", "reasonDetail", "I", false)
  | 11 => ("PetitionBoard", "latestDenial", "I", false)
  | 12 => ("PetitionBoard", "latestDetail", "I", false)
  | 13 => ("PetitionBoard", "latestCause", "I", false)
  | _ => ("PetitionBoard", "latestCauseDetail", "I", false)
def tyX8 : Nat → FieldType := fun k => match k with
  | 0 => .object "PetitionBoard$State"
  | 1 => .object "PetitionBoard$State"
  | 2 => .object "PetitionBoard$History"
  | 3 => .object "PetitionBoard$Line"
  | 4 => .object "PetitionBoard$Line"
  | 5 => .object "PetitionBoard$TextReader"
  | 6 => .array .int
  | 7 => .boolean
  | 8 => .int
  | 9 => .int
  | 10 => .int
  | 11 => .int
  | 12 => .int
  | 13 => .int
  | _ => .int
abbrev wsX80 : List Cond := u_ws RX8 TX8 15
theorem nmX8 : ∀ a, a < 15 → ∀ b, b < 15 → a ≠ b → (TX8 a).2.1 ≠ (TX8 b).2.1 := by decide +kernel
theorem tyX8_ok : ∀ k, k < 15 → parseFieldDescriptor (TX8 k).2.2.1 = some (tyX8 k) := by decide +kernel
abbrev cX8_init : ByteArray := prog_1_method_1_code
def yX8_init : MethodName := ⟨RX8, "<init>", "()V"⟩
abbrev cX8_addStone : ByteArray := prog_1_method_2_code
def yX8_addStone : MethodName := ⟨RX8, "addStone", "(II)I"⟩
abbrev cX8_addOfficer : ByteArray := prog_1_method_3_code
def yX8_addOfficer : MethodName := ⟨RX8, "addOfficer", "(I)I"⟩
abbrev cX8_stoneCount : ByteArray := prog_1_method_4_code
def yX8_stoneCount : MethodName := ⟨RX8, "stoneCount", "()I"⟩
abbrev cX8_cellOf : ByteArray := prog_1_method_5_code
def yX8_cellOf : MethodName := ⟨RX8, "cellOf", "(I)I"⟩
abbrev cX8_weightOf : ByteArray := prog_1_method_6_code
def yX8_weightOf : MethodName := ⟨RX8, "weightOf", "(I)I"⟩
abbrev cX8_stoneIn : ByteArray := prog_1_method_7_code
def yX8_stoneIn : MethodName := ⟨RX8, "stoneIn", "(I)I"⟩
abbrev cX8_officerCount : ByteArray := prog_1_method_8_code
def yX8_officerCount : MethodName := ⟨RX8, "officerCount", "()I"⟩
abbrev cX8_rankOf : ByteArray := prog_1_method_9_code
def yX8_rankOf : MethodName := ⟨RX8, "rankOf", "(I)I"⟩
abbrev cX8_petitionsOf : ByteArray := prog_1_method_10_code
def yX8_petitionsOf : MethodName := ⟨RX8, "petitionsOf", "(I)I"⟩
abbrev cX8_file : ByteArray := prog_1_method_11_code
def yX8_file : MethodName := ⟨RX8, "file", "(IIII)I"⟩
abbrev cX8_vote : ByteArray := prog_1_method_12_code
def yX8_vote : MethodName := ⟨RX8, "vote", "(IIZ)I"⟩
abbrev cX8_cite : ByteArray := prog_1_method_13_code
def yX8_cite : MethodName := ⟨RX8, "cite", "(II)I"⟩
abbrev cX8_veto : ByteArray := prog_1_method_14_code
def yX8_veto : MethodName := ⟨RX8, "veto", "(II)I"⟩
abbrev cX8_withdraw : ByteArray := prog_1_method_15_code
def yX8_withdraw : MethodName := ⟨RX8, "withdraw", "(I)I"⟩
abbrev cX8_pendingCount : ByteArray := prog_1_method_16_code
def yX8_pendingCount : MethodName := ⟨RX8, "pendingCount", "()I"⟩
abbrev cX8_petitionAt : ByteArray := prog_1_method_17_code
def yX8_petitionAt : MethodName := ⟨RX8, "petitionAt", "(I)I"⟩
abbrev cX8_positionOf : ByteArray := prog_1_method_18_code
def yX8_positionOf : MethodName := ⟨RX8, "positionOf", "(I)I"⟩
abbrev cX8_stoneOf : ByteArray := prog_1_method_19_code
def yX8_stoneOf : MethodName := ⟨RX8, "stoneOf", "(I)I"⟩
abbrev cX8_targetOf : ByteArray := prog_1_method_20_code
def yX8_targetOf : MethodName := ⟨RX8, "targetOf", "(I)I"⟩
abbrev cX8_votesFor : ByteArray := prog_1_method_21_code
def yX8_votesFor : MethodName := ⟨RX8, "votesFor", "(I)I"⟩
abbrev cX8_votesAgainst : ByteArray := prog_1_method_22_code
def yX8_votesAgainst : MethodName := ⟨RX8, "votesAgainst", "(I)I"⟩
abbrev cX8_wouldBeGranted : ByteArray := prog_1_method_23_code
def yX8_wouldBeGranted : MethodName := ⟨RX8, "wouldBeGranted", "(I)Z"⟩
abbrev cX8_setQuorum : ByteArray := prog_1_method_24_code
def yX8_setQuorum : MethodName := ⟨RX8, "setQuorum", "(I)I"⟩
abbrev cX8_decide : ByteArray := prog_1_method_25_code
def yX8_decide : MethodName := ⟨RX8, "decide", "()I"⟩
abbrev cX8_quorum : ByteArray := prog_1_method_26_code
def yX8_quorum : MethodName := ⟨RX8, "quorum", "()I"⟩
abbrev cX8_rulingCount : ByteArray := prog_1_method_27_code
def yX8_rulingCount : MethodName := ⟨RX8, "rulingCount", "()I"⟩
abbrev cX8_isGranted : ByteArray := prog_1_method_28_code
def yX8_isGranted : MethodName := ⟨RX8, "isGranted", "(I)Z"⟩
abbrev cX8_isCarriedOut : ByteArray := prog_1_method_29_code
def yX8_isCarriedOut : MethodName := ⟨RX8, "isCarriedOut", "(I)Z"⟩
abbrev cX8_citationCount : ByteArray := prog_1_method_30_code
def yX8_citationCount : MethodName := ⟨RX8, "citationCount", "(I)I"⟩
abbrev cX8_citation : ByteArray := prog_1_method_31_code
def yX8_citation : MethodName := ⟨RX8, "citation", "(II)I"⟩
abbrev cX8_citedBy : ByteArray := prog_1_method_32_code
def yX8_citedBy : MethodName := ⟨RX8, "citedBy", "(I)I"⟩
abbrev cX8_depth : ByteArray := prog_1_method_33_code
def yX8_depth : MethodName := ⟨RX8, "depth", "(I)I"⟩
abbrev cX8_isBasedOn : ByteArray := prog_1_method_34_code
def yX8_isBasedOn : MethodName := ⟨RX8, "isBasedOn", "(II)Z"⟩
abbrev cX8_influence : ByteArray := prog_1_method_35_code
def yX8_influence : MethodName := ⟨RX8, "influence", "(I)I"⟩
abbrev cX8_influenceByMarking : ByteArray := prog_1_method_36_code
def yX8_influenceByMarking : MethodName := ⟨RX8, "influenceByMarking", "(I)I"⟩
abbrev cX8_rulingByInfluence : ByteArray := prog_1_method_37_code
def yX8_rulingByInfluence : MethodName := ⟨RX8, "rulingByInfluence", "(I)I"⟩
abbrev cX8_filedCount : ByteArray := prog_1_method_38_code
def yX8_filedCount : MethodName := ⟨RX8, "filedCount", "()I"⟩
abbrev cX8_vetoes : ByteArray := prog_1_method_39_code
def yX8_vetoes : MethodName := ⟨RX8, "vetoes", "()I"⟩
abbrev cX8_withdrawals : ByteArray := prog_1_method_40_code
def yX8_withdrawals : MethodName := ⟨RX8, "withdrawals", "()I"⟩
abbrev cX8_movedWeight : ByteArray := prog_1_method_41_code
def yX8_movedWeight : MethodName := ⟨RX8, "movedWeight", "()I"⟩
abbrev cX8_meanVotes : ByteArray := prog_1_method_42_code
def yX8_meanVotes : MethodName := ⟨RX8, "meanVotes", "()D"⟩
abbrev cX8_grantedShare : ByteArray := prog_1_method_43_code
def yX8_grantedShare : MethodName := ⟨RX8, "grantedShare", "()F"⟩
abbrev cX8_feed : ByteArray := prog_1_method_44_code
def yX8_feed : MethodName := ⟨RX8, "feed", "(C)I"⟩
abbrev cX8_execute : ByteArray := prog_1_method_45_code
def yX8_execute : MethodName := ⟨RX8, "execute", "()I"⟩
abbrev cX8_faultPosition : ByteArray := prog_1_method_46_code
def yX8_faultPosition : MethodName := ⟨RX8, "faultPosition", "()I"⟩
abbrev cX8_writePetition : ByteArray := prog_1_method_47_code
def yX8_writePetition : MethodName := ⟨RX8, "writePetition", "(I)I"⟩
abbrev cX8_writeRow : ByteArray := prog_1_method_48_code
def yX8_writeRow : MethodName := ⟨RX8, "writeRow", "(I)I"⟩
abbrev cX8_lineCharacter : ByteArray := prog_1_method_49_code
def yX8_lineCharacter : MethodName := ⟨RX8, "lineCharacter", "(I)C"⟩
abbrev cX8_denial : ByteArray := prog_1_method_50_code
def yX8_denial : MethodName := ⟨RX8, "denial", "()I"⟩
abbrev cX8_denialDetail : ByteArray := prog_1_method_51_code
def yX8_denialDetail : MethodName := ⟨RX8, "denialDetail", "()I"⟩
abbrev cX8_denialCause : ByteArray := prog_1_method_52_code
def yX8_denialCause : MethodName := ⟨RX8, "denialCause", "()I"⟩
abbrev cX8_denialCauseDetail : ByteArray := prog_1_method_53_code
def yX8_denialCauseDetail : MethodName := ⟨RX8, "denialCauseDetail", "()I"⟩
abbrev cX8_undo : ByteArray := prog_1_method_54_code
def yX8_undo : MethodName := ⟨RX8, "undo", "()I"⟩
abbrev cX8_undoCount : ByteArray := prog_1_method_55_code
def yX8_undoCount : MethodName := ⟨RX8, "undoCount", "()I"⟩
abbrev cX8_saveSnapshot : ByteArray := prog_1_method_56_code
def yX8_saveSnapshot : MethodName := ⟨RX8, "saveSnapshot", "()I"⟩
abbrev cX8_restoreSnapshot : ByteArray := prog_1_method_57_code
def yX8_restoreSnapshot : MethodName := ⟨RX8, "restoreSnapshot", "()I"⟩
abbrev cX8_placeStone : ByteArray := prog_1_method_58_code
def yX8_placeStone : MethodName := ⟨RX8, "placeStone", "(II)I"⟩
abbrev cX8_enlistOfficer : ByteArray := prog_1_method_59_code
def yX8_enlistOfficer : MethodName := ⟨RX8, "enlistOfficer", "(I)I"⟩
abbrev cX8_changeQuorum : ByteArray := prog_1_method_60_code
def yX8_changeQuorum : MethodName := ⟨RX8, "changeQuorum", "(I)I"⟩
abbrev cX8_lodgePetition : ByteArray := prog_1_method_61_code
def yX8_lodgePetition : MethodName := ⟨RX8, "lodgePetition", "(IIII)I"⟩
abbrev cX8_castVote : ByteArray := prog_1_method_62_code
def yX8_castVote : MethodName := ⟨RX8, "castVote", "(IIZ)I"⟩
abbrev cX8_citeRuling : ByteArray := prog_1_method_63_code
def yX8_citeRuling : MethodName := ⟨RX8, "citeRuling", "(II)I"⟩
abbrev cX8_vetoPetition : ByteArray := prog_1_method_64_code
def yX8_vetoPetition : MethodName := ⟨RX8, "vetoPetition", "(II)I"⟩
abbrev cX8_withdrawPetition : ByteArray := prog_1_method_65_code
def yX8_withdrawPetition : MethodName := ⟨RX8, "withdrawPetition", "(I)I"⟩
abbrev cX8_decideFirst : ByteArray := prog_1_method_66_code
def yX8_decideFirst : MethodName := ⟨RX8, "decideFirst", "()I"⟩
abbrev cX8_deny : ByteArray := prog_1_method_67_code
def yX8_deny : MethodName := ⟨RX8, "deny", "(II)I"⟩
abbrev cX8_conclude : ByteArray := prog_1_method_68_code
def yX8_conclude : MethodName := ⟨RX8, "conclude", "(I)I"⟩
abbrev cX8_runCommands : ByteArray := prog_1_method_69_code
def yX8_runCommands : MethodName := ⟨RX8, "runCommands", "()Z"⟩
abbrev cX8_attempt : ByteArray := prog_1_method_70_code
def yX8_attempt : MethodName := ⟨RX8, "attempt", "(LPetitionBoard$Command;)I"⟩
abbrev cX8_keepDenial : ByteArray := prog_1_method_71_code
def yX8_keepDenial : MethodName := ⟨RX8, "keepDenial", "(IIII)V"⟩
abbrev cX8_isCell : ByteArray := prog_1_method_72_code
def yX8_isCell : MethodName := ⟨RX8, "isCell", "(I)Z"⟩
abbrev cX8_requirePetition : ByteArray := prog_1_method_73_code
def yX8_requirePetition : MethodName := ⟨RX8, "requirePetition", "(I)LPetitionBoard$Petition;"⟩
abbrev cX8_requireRuling : ByteArray := prog_1_method_74_code
def yX8_requireRuling : MethodName := ⟨RX8, "requireRuling", "(I)LPetitionBoard$Ruling;"⟩
abbrev cX8_requireDenial : ByteArray := prog_1_method_75_code
def yX8_requireDenial : MethodName := ⟨RX8, "requireDenial", "()V"⟩
abbrev cX8_requireCause : ByteArray := prog_1_method_76_code
def yX8_requireCause : MethodName := ⟨RX8, "requireCause", "()V"⟩
abbrev cX8_rankByInfluence : ByteArray := prog_1_method_77_code
def yX8_rankByInfluence : MethodName := ⟨RX8, "rankByInfluence", "(I)I"⟩
def RX9 : String := "PetitionBoardModel"
def TX9 : u_T := fun k => match k with
  | 0 => ("PetitionBoardModel", "g", "[I", true)
  | 1 => ("PetitionBoardModel", "kept", "[I", true)
  | 2 => ("PetitionBoardModel", "saved", "[I", true)
  | 3 => ("PetitionBoardModel", "before", "[I", true)
  | 4 => ("PetitionBoardModel", "isSaved", "Z", false)
  | 5 => ("PetitionBoardModel", "changes", "I", false)
  | 6 => ("PetitionBoardModel", "isWithin", "Z", false)
  | 7 => ("PetitionBoardModel", "isDenied", "Z", false)
  | 8 => ("PetitionBoardModel", "code", "I", false)
  | 9 => ("PetitionBoardModel", "why", "I", false)
  | 10 => ("PetitionBoardModel", "detail", "I", false)
  | 11 => ("PetitionBoardModel", "cause", "I", false)
  | 12 => ("PetitionBoardModel", "causeDetail", "I", false)
  | 13 => ("PetitionBoardModel", "input", "[I", true)
  | 14 => ("PetitionBoardModel", "length", "I", false)
  | 15 => ("PetitionBoardModel", "fault", "I", false)
  | 16 => ("PetitionBoardModel", "signs", "[C", true)
  | 17 => ("PetitionBoardModel", "signMany", "I", false)
  | 18 => ("PetitionBoardModel", "deep", "[I", true)
  | 19 => ("PetitionBoardModel", "at", "I", false)
  | 20 => ("PetitionBoardModel", "told", "[I", true)
  | _ => ("PetitionBoardModel", "toldMany", "I", false)
def tyX9 : Nat → FieldType := fun k => match k with
  | 0 => .array .int
  | 1 => .array .int
  | 2 => .array .int
  | 3 => .array .int
  | 4 => .boolean
  | 5 => .int
  | 6 => .boolean
  | 7 => .boolean
  | 8 => .int
  | 9 => .int
  | 10 => .int
  | 11 => .int
  | 12 => .int
  | 13 => .array .int
  | 14 => .int
  | 15 => .int
  | 16 => .array .char
  | 17 => .int
  | 18 => .array .int
  | 19 => .int
  | 20 => .array .int
  | _ => .int
abbrev wsX90 : List Cond := u_ws RX9 TX9 22
theorem nmX9 : ∀ a, a < 22 → ∀ b, b < 22 → a ≠ b → (TX9 a).2.1 ≠ (TX9 b).2.1 := by decide +kernel
theorem tyX9_ok : ∀ k, k < 22 → parseFieldDescriptor (TX9 k).2.2.1 = some (tyX9 k) := by decide +kernel
abbrev cX9_init : ByteArray := prog_11_method_1_code
def yX9_init : MethodName := ⟨RX9, "<init>", "()V"⟩
abbrev cX9_thrown : ByteArray := prog_11_method_2_code
def yX9_thrown : MethodName := ⟨RX9, "thrown", "()I"⟩
abbrev cX9_fails : ByteArray := prog_11_method_3_code
def yX9_fails : MethodName := ⟨RX9, "fails", "(I)Z"⟩
abbrev cX9_denies : ByteArray := prog_11_method_4_code
def yX9_denies : MethodName := ⟨RX9, "denies", "(III)I"⟩
abbrev cX9_in : ByteArray := prog_11_method_5_code
def yX9_in : MethodName := ⟨RX9, "in", "(III)Z"⟩
abbrev cX9_copies : ByteArray := prog_11_method_6_code
def yX9_copies : MethodName := ⟨RX9, "copies", "([II[II)V"⟩
abbrev cX9_keeps : ByteArray := prog_11_method_7_code
def yX9_keeps : MethodName := ⟨RX9, "keeps", "([I)V"⟩
abbrev cX9_isCell : ByteArray := prog_11_method_8_code
def yX9_isCell : MethodName := ⟨RX9, "isCell", "(I)Z"⟩
abbrev cX9_isStone : ByteArray := prog_11_method_9_code
def yX9_isStone : MethodName := ⟨RX9, "isStone", "(I)Z"⟩
abbrev cX9_isOfficer : ByteArray := prog_11_method_10_code
def yX9_isOfficer : MethodName := ⟨RX9, "isOfficer", "(I)Z"⟩
abbrev cX9_cell : ByteArray := prog_11_method_11_code
def yX9_cell : MethodName := ⟨RX9, "cell", "(I)I"⟩
abbrev cX9_heavy : ByteArray := prog_11_method_12_code
def yX9_heavy : MethodName := ⟨RX9, "heavy", "(I)I"⟩
abbrev cX9_rank : ByteArray := prog_11_method_13_code
def yX9_rank : MethodName := ⟨RX9, "rank", "(I)I"⟩
abbrev cX9_within : ByteArray := prog_11_method_14_code
def yX9_within : MethodName := ⟨RX9, "within", "(I)I"⟩
abbrev cX9_addStone : ByteArray := prog_11_method_15_code
def yX9_addStone : MethodName := ⟨RX9, "addStone", "(II)I"⟩
abbrev cX9_addOfficer : ByteArray := prog_11_method_16_code
def yX9_addOfficer : MethodName := ⟨RX9, "addOfficer", "(I)I"⟩
abbrev cX9_stoneCount : ByteArray := prog_11_method_17_code
def yX9_stoneCount : MethodName := ⟨RX9, "stoneCount", "()I"⟩
abbrev cX9_cellOf : ByteArray := prog_11_method_18_code
def yX9_cellOf : MethodName := ⟨RX9, "cellOf", "(I)I"⟩
abbrev cX9_weightOf : ByteArray := prog_11_method_19_code
def yX9_weightOf : MethodName := ⟨RX9, "weightOf", "(I)I"⟩
abbrev cX9_stoneIn : ByteArray := prog_11_method_20_code
def yX9_stoneIn : MethodName := ⟨RX9, "stoneIn", "(I)I"⟩
abbrev cX9_officerCount : ByteArray := prog_11_method_21_code
def yX9_officerCount : MethodName := ⟨RX9, "officerCount", "()I"⟩
abbrev cX9_rankOf : ByteArray := prog_11_method_22_code
def yX9_rankOf : MethodName := ⟨RX9, "rankOf", "(I)I"⟩
abbrev cX9_petitionsOf : ByteArray := prog_11_method_23_code
def yX9_petitionsOf : MethodName := ⟨RX9, "petitionsOf", "(I)I"⟩
abbrev cX9_of : ByteArray := prog_11_method_24_code
def yX9_of : MethodName := ⟨RX9, "of", "(II)I"⟩
abbrev cX9_lays : ByteArray := prog_11_method_25_code
def yX9_lays : MethodName := ⟨RX9, "lays", "(III)V"⟩
abbrev cX9_placeOf : ByteArray := prog_11_method_26_code
def yX9_placeOf : MethodName := ⟨RX9, "placeOf", "(I)I"⟩
abbrev cX9_isNone : ByteArray := prog_11_method_27_code
def yX9_isNone : MethodName := ⟨RX9, "isNone", "(I)Z"⟩
abbrev cX9_about : ByteArray := prog_11_method_28_code
def yX9_about : MethodName := ⟨RX9, "about", "(I)I"⟩
abbrev cX9_file : ByteArray := prog_11_method_29_code
def yX9_file : MethodName := ⟨RX9, "file", "(IIII)I"⟩
abbrev cX9_bits : ByteArray := prog_11_method_30_code
def yX9_bits : MethodName := ⟨RX9, "bits", "(I)I"⟩
abbrev cX9_votes : ByteArray := prog_11_method_31_code
def yX9_votes : MethodName := ⟨RX9, "votes", "(I)I"⟩
abbrev cX9_vote : ByteArray := prog_11_method_32_code
def yX9_vote : MethodName := ⟨RX9, "vote", "(IIZ)I"⟩
abbrev cX9_isRuling : ByteArray := prog_11_method_33_code
def yX9_isRuling : MethodName := ⟨RX9, "isRuling", "(I)Z"⟩
abbrev cX9_cite : ByteArray := prog_11_method_34_code
def yX9_cite : MethodName := ⟨RX9, "cite", "(II)I"⟩
abbrev cX9_drops : ByteArray := prog_11_method_35_code
def yX9_drops : MethodName := ⟨RX9, "drops", "(I)V"⟩
abbrev cX9_veto : ByteArray := prog_11_method_36_code
def yX9_veto : MethodName := ⟨RX9, "veto", "(II)I"⟩
abbrev cX9_withdraw : ByteArray := prog_11_method_37_code
def yX9_withdraw : MethodName := ⟨RX9, "withdraw", "(I)I"⟩
abbrev cX9_pendingCount : ByteArray := prog_11_method_38_code
def yX9_pendingCount : MethodName := ⟨RX9, "pendingCount", "()I"⟩
abbrev cX9_isAhead : ByteArray := prog_11_method_39_code
def yX9_isAhead : MethodName := ⟨RX9, "isAhead", "(II)Z"⟩
abbrev cX9_ahead : ByteArray := prog_11_method_40_code
def yX9_ahead : MethodName := ⟨RX9, "ahead", "(I)I"⟩
abbrev cX9_queued : ByteArray := prog_11_method_41_code
def yX9_queued : MethodName := ⟨RX9, "queued", "(I)I"⟩
abbrev cX9_petitionAt : ByteArray := prog_11_method_42_code
def yX9_petitionAt : MethodName := ⟨RX9, "petitionAt", "(I)I"⟩
abbrev cX9_positionOf : ByteArray := prog_11_method_43_code
def yX9_positionOf : MethodName := ⟨RX9, "positionOf", "(I)I"⟩
abbrev cX9_stoneOf : ByteArray := prog_11_method_44_code
def yX9_stoneOf : MethodName := ⟨RX9, "stoneOf", "(I)I"⟩
abbrev cX9_targetOf : ByteArray := prog_11_method_45_code
def yX9_targetOf : MethodName := ⟨RX9, "targetOf", "(I)I"⟩
abbrev cX9_votesFor : ByteArray := prog_11_method_46_code
def yX9_votesFor : MethodName := ⟨RX9, "votesFor", "(I)I"⟩
abbrev cX9_votesAgainst : ByteArray := prog_11_method_47_code
def yX9_votesAgainst : MethodName := ⟨RX9, "votesAgainst", "(I)I"⟩
abbrev cX9_wins : ByteArray := prog_11_method_48_code
def yX9_wins : MethodName := ⟨RX9, "wins", "(I)Z"⟩
abbrev cX9_wouldBeGranted : ByteArray := prog_11_method_49_code
def yX9_wouldBeGranted : MethodName := ⟨RX9, "wouldBeGranted", "(I)Z"⟩
abbrev cX9_by : ByteArray := prog_11_method_50_code
def yX9_by : MethodName := ⟨RX9, "by", "(II)I"⟩
abbrev cX9_setQuorum : ByteArray := prog_11_method_51_code
def yX9_setQuorum : MethodName := ⟨RX9, "setQuorum", "(I)I"⟩
abbrev cX9_decide : ByteArray := prog_11_method_52_code
def yX9_decide : MethodName := ⟨RX9, "decide", "()I"⟩
abbrev cX9_quorum : ByteArray := prog_11_method_53_code
def yX9_quorum : MethodName := ⟨RX9, "quorum", "()I"⟩
abbrev cX9_rulingCount : ByteArray := prog_11_method_54_code
def yX9_rulingCount : MethodName := ⟨RX9, "rulingCount", "()I"⟩
abbrev cX9_isUnruled : ByteArray := prog_11_method_55_code
def yX9_isUnruled : MethodName := ⟨RX9, "isUnruled", "(I)Z"⟩
abbrev cX9_isGranted : ByteArray := prog_11_method_56_code
def yX9_isGranted : MethodName := ⟨RX9, "isGranted", "(I)Z"⟩
abbrev cX9_isCarriedOut : ByteArray := prog_11_method_57_code
def yX9_isCarriedOut : MethodName := ⟨RX9, "isCarriedOut", "(I)Z"⟩
abbrev cX9_citationCount : ByteArray := prog_11_method_58_code
def yX9_citationCount : MethodName := ⟨RX9, "citationCount", "(I)I"⟩
abbrev cX9_citation : ByteArray := prog_11_method_59_code
def yX9_citation : MethodName := ⟨RX9, "citation", "(II)I"⟩
abbrev cX9_names : ByteArray := prog_11_method_60_code
def yX9_names : MethodName := ⟨RX9, "names", "(II)Z"⟩
abbrev cX9_citedBy : ByteArray := prog_11_method_61_code
def yX9_citedBy : MethodName := ⟨RX9, "citedBy", "(I)I"⟩
abbrev cX9_depth : ByteArray := prog_11_method_62_code
def yX9_depth : MethodName := ⟨RX9, "depth", "(I)I"⟩
abbrev cX9_based : ByteArray := prog_11_method_63_code
def yX9_based : MethodName := ⟨RX9, "based", "(I)I"⟩
abbrev cX9_reaches : ByteArray := prog_11_method_64_code
def yX9_reaches : MethodName := ⟨RX9, "reaches", "(I)I"⟩
abbrev cX9_isBasedOn : ByteArray := prog_11_method_65_code
def yX9_isBasedOn : MethodName := ⟨RX9, "isBasedOn", "(II)Z"⟩
abbrev cX9_influence : ByteArray := prog_11_method_66_code
def yX9_influence : MethodName := ⟨RX9, "influence", "(I)I"⟩
abbrev cX9_influenceByMarking : ByteArray := prog_11_method_67_code
def yX9_influenceByMarking : MethodName := ⟨RX9, "influenceByMarking", "(I)I"⟩
abbrev cX9_rulingByInfluence : ByteArray := prog_11_method_68_code
def yX9_rulingByInfluence : MethodName := ⟨RX9, "rulingByInfluence", "(I)I"⟩
abbrev cX9_filedCount : ByteArray := prog_11_method_69_code
def yX9_filedCount : MethodName := ⟨RX9, "filedCount", "()I"⟩
abbrev cX9_vetoes : ByteArray := prog_11_method_70_code
def yX9_vetoes : MethodName := ⟨RX9, "vetoes", "()I"⟩
abbrev cX9_withdrawals : ByteArray := prog_11_method_71_code
def yX9_withdrawals : MethodName := ⟨RX9, "withdrawals", "()I"⟩
abbrev cX9_movedWeight : ByteArray := prog_11_method_72_code
def yX9_movedWeight : MethodName := ⟨RX9, "movedWeight", "()I"⟩
abbrev cX9_meanVotes : ByteArray := prog_11_method_73_code
def yX9_meanVotes : MethodName := ⟨RX9, "meanVotes", "()D"⟩
abbrev cX9_grantedShare : ByteArray := prog_11_method_74_code
def yX9_grantedShare : MethodName := ⟨RX9, "grantedShare", "()F"⟩
abbrev cX9_feed : ByteArray := prog_11_method_75_code
def yX9_feed : MethodName := ⟨RX9, "feed", "(C)I"⟩
abbrev cX9_here : ByteArray := prog_11_method_76_code
def yX9_here : MethodName := ⟨RX9, "here", "()I"⟩
abbrev cX9_skips : ByteArray := prog_11_method_77_code
def yX9_skips : MethodName := ⟨RX9, "skips", "(I)Z"⟩
abbrev cX9_isWord : ByteArray := prog_11_method_78_code
def yX9_isWord : MethodName := ⟨RX9, "isWord", "(Ljava/lang/String;)Z"⟩
abbrev cX9_figures : ByteArray := prog_11_method_79_code
def yX9_figures : MethodName := ⟨RX9, "figures", "(II)Z"⟩
abbrev cX9_commandHere : ByteArray := prog_11_method_80_code
def yX9_commandHere : MethodName := ⟨RX9, "commandHere", "()Z"⟩
abbrev cX9_isText : ByteArray := prog_11_method_81_code
def yX9_isText : MethodName := ⟨RX9, "isText", "()Z"⟩
abbrev cX9_carries : ByteArray := prog_11_method_82_code
def yX9_carries : MethodName := ⟨RX9, "carries", "(I)I"⟩
abbrev cX9_deniesText : ByteArray := prog_11_method_83_code
def yX9_deniesText : MethodName := ⟨RX9, "deniesText", "(I)I"⟩
abbrev cX9_execute : ByteArray := prog_11_method_84_code
def yX9_execute : MethodName := ⟨RX9, "execute", "()I"⟩
abbrev cX9_faultPosition : ByteArray := prog_11_method_85_code
def yX9_faultPosition : MethodName := ⟨RX9, "faultPosition", "()I"⟩
abbrev cX9_writes : ByteArray := prog_11_method_86_code
def yX9_writes : MethodName := ⟨RX9, "writes", "(I)V"⟩
abbrev cX9_writesNumber : ByteArray := prog_11_method_87_code
def yX9_writesNumber : MethodName := ⟨RX9, "writesNumber", "(I)V"⟩
abbrev cX9_writesBehind : ByteArray := prog_11_method_88_code
def yX9_writesBehind : MethodName := ⟨RX9, "writesBehind", "(II)V"⟩
abbrev cX9_writePetition : ByteArray := prog_11_method_89_code
def yX9_writePetition : MethodName := ⟨RX9, "writePetition", "(I)I"⟩
abbrev cX9_writeRow : ByteArray := prog_11_method_90_code
def yX9_writeRow : MethodName := ⟨RX9, "writeRow", "(I)I"⟩
abbrev cX9_lineCharacter : ByteArray := prog_11_method_91_code
def yX9_lineCharacter : MethodName := ⟨RX9, "lineCharacter", "(I)C"⟩
abbrev cX9_denial : ByteArray := prog_11_method_92_code
def yX9_denial : MethodName := ⟨RX9, "denial", "()I"⟩
abbrev cX9_denialDetail : ByteArray := prog_11_method_93_code
def yX9_denialDetail : MethodName := ⟨RX9, "denialDetail", "()I"⟩
abbrev cX9_denialCause : ByteArray := prog_11_method_94_code
def yX9_denialCause : MethodName := ⟨RX9, "denialCause", "()I"⟩
abbrev cX9_denialCauseDetail : ByteArray := prog_11_method_95_code
def yX9_denialCauseDetail : MethodName := ⟨RX9, "denialCauseDetail", "()I"⟩
abbrev cX9_undo : ByteArray := prog_11_method_96_code
def yX9_undo : MethodName := ⟨RX9, "undo", "()I"⟩
abbrev cX9_undoCount : ByteArray := prog_11_method_97_code
def yX9_undoCount : MethodName := ⟨RX9, "undoCount", "()I"⟩
abbrev cX9_saveSnapshot : ByteArray := prog_11_method_98_code
def yX9_saveSnapshot : MethodName := ⟨RX9, "saveSnapshot", "()I"⟩
abbrev cX9_restoreSnapshot : ByteArray := prog_11_method_99_code
def yX9_restoreSnapshot : MethodName := ⟨RX9, "restoreSnapshot", "()I"⟩
def RJx145de : String := "java/io/Serializable"
def TJx145de : u_T := fun k => match k with
  | _ => ("", "", "", false)
def tyJx145de : Nat → FieldType := fun k => match k with
  | _ => .int
abbrev wsJx145de0 : List Cond := u_ws RJx145de TJx145de 0
theorem nmJx145de : ∀ a, a < 0 → ∀ b, b < 0 → a ≠ b → (TJx145de a).2.1 ≠ (TJx145de b).2.1 := by decide +kernel
theorem tyJx145de_ok : ∀ k, k < 0 → parseFieldDescriptor (TJx145de k).2.2.1 = some (tyJx145de k) := by decide +kernel
def RJx00060 : String := "java/lang/ArrayIndexOutOfBoundsException"
def TJx00060 : u_T := fun k => match k with
  | 0 => ("java/lang/Throwable", "backtrace", "Ljava/lang/Object;", false)
  | 1 => ("java/lang/Throwable", "detailMessage", "Ljava/lang/String;", false)
  | 2 => ("java/lang/Throwable", "cause", "Ljava/lang/Throwable;", false)
  | 3 => ("java/lang/Throwable", "stackTrace", "[Ljava/lang/StackTraceElement;", false)
  | 4 => ("java/lang/Throwable", "depth", "I", false)
  | _ => ("java/lang/Throwable", "suppressedExceptions", "Ljava/util/List;", false)
def tyJx00060 : Nat → FieldType := fun k => match k with
  | 0 => .object "java/lang/Object"
  | 1 => .object "java/lang/String"
  | 2 => .object "java/lang/Throwable"
  | 3 => .array (.object "java/lang/StackTraceElement")
  | 4 => .int
  | _ => .object "java/util/List"
abbrev wsJx000600 : List Cond := u_ws RJx00060 TJx00060 6
theorem nmJx00060 : ∀ a, a < 6 → ∀ b, b < 6 → a ≠ b → (TJx00060 a).2.1 ≠ (TJx00060 b).2.1 := by decide +kernel
theorem tyJx00060_ok : ∀ k, k < 6 → parseFieldDescriptor (TJx00060 k).2.2.1 = some (tyJx00060 k) := by decide +kernel
abbrev cJx00060_init_a7421 : ByteArray := prog_14_method_2_code
def yJx00060_init_a7421 : MethodName := ⟨RJx00060, "<init>", "(Ljava/lang/String;)V"⟩
def RJx9f9b0 : String := "java/lang/CharSequence"
def TJx9f9b0 : u_T := fun k => match k with
  | _ => ("", "", "", false)
def tyJx9f9b0 : Nat → FieldType := fun k => match k with
  | _ => .int
abbrev wsJx9f9b00 : List Cond := u_ws RJx9f9b0 TJx9f9b0 0
theorem nmJx9f9b0 : ∀ a, a < 0 → ∀ b, b < 0 → a ≠ b → (TJx9f9b0 a).2.1 ≠ (TJx9f9b0 b).2.1 := by decide +kernel
theorem tyJx9f9b0_ok : ∀ k, k < 0 → parseFieldDescriptor (TJx9f9b0 k).2.2.1 = some (tyJx9f9b0 k) := by decide +kernel
def RJxb160c : String := "java/lang/Comparable"
def TJxb160c : u_T := fun k => match k with
  | _ => ("", "", "", false)
def tyJxb160c : Nat → FieldType := fun k => match k with
  | _ => .int
abbrev wsJxb160c0 : List Cond := u_ws RJxb160c TJxb160c 0
theorem nmJxb160c : ∀ a, a < 0 → ∀ b, b < 0 → a ≠ b → (TJxb160c a).2.1 ≠ (TJxb160c b).2.1 := by decide +kernel
theorem tyJxb160c_ok : ∀ k, k < 0 → parseFieldDescriptor (TJxb160c k).2.2.1 = some (tyJxb160c k) := by decide +kernel
def RJ6 : String := "java/lang/Integer"
def TJ6 : u_T := fun k => match k with
  | _ => ("", "", "", false)
def tyJ6 : Nat → FieldType := fun k => match k with
  | _ => .int
abbrev wsJ60 : List Cond := u_ws RJ6 TJ6 0
theorem nmJ6 : ∀ a, a < 0 → ∀ b, b < 0 → a ≠ b → (TJ6 a).2.1 ≠ (TJ6 b).2.1 := by decide +kernel
theorem tyJ6_ok : ∀ k, k < 0 → parseFieldDescriptor (TJ6 k).2.2.1 = some (tyJ6 k) := by decide +kernel
abbrev cJ6_bitCount_0f7a4 : ByteArray := prog_21_method_49_code
def yJ6_bitCount_0f7a4 : MethodName := ⟨RJ6, "bitCount", "(I)I"⟩
def RJ0 : String := "java/lang/String"
def TJ0 : u_T := fun k => match k with
  | 0 => ("java/lang/String", "value", "[B", true)
  | _ => ("java/lang/String", "coder", "B", true)
def tyJ0 : Nat → FieldType := fun k => match k with
  | 0 => .array .byte
  | _ => .byte
abbrev wsJ00 : List Cond := u_ws RJ0 TJ0 2
theorem nmJ0 : ∀ a, a < 2 → ∀ b, b < 2 → a ≠ b → (TJ0 a).2.1 ≠ (TJ0 b).2.1 := by decide +kernel
theorem tyJ0_ok : ∀ k, k < 2 → parseFieldDescriptor (TJ0 k).2.2.1 = some (tyJ0 k) := by decide +kernel
abbrev cJ0_length_8abf5 : ByteArray := prog_23_method_54_code
def yJ0_length_8abf5 : MethodName := ⟨RJ0, "length", "()I"⟩
abbrev cJ0_isEmpty_aae02 : ByteArray := prog_23_method_55_code
def yJ0_isEmpty_aae02 : MethodName := ⟨RJ0, "isEmpty", "()Z"⟩
abbrev cJ0_charAt_5068e : ByteArray := prog_23_method_56_code
def yJ0_charAt_5068e : MethodName := ⟨RJ0, "charAt", "(I)C"⟩
abbrev cJ0_coder_7d493 : ByteArray := prog_23_method_152_code
def yJ0_coder_7d493 : MethodName := ⟨RJ0, "coder", "()B"⟩
abbrev cJ0_isLatin1_aae02 : ByteArray := prog_23_method_154_code
def yJ0_isLatin1_aae02 : MethodName := ⟨RJ0, "isLatin1", "()Z"⟩
abbrev cJ0_checkIndex_df160 : ByteArray := prog_23_method_155_code
def yJ0_checkIndex_df160 : MethodName := ⟨RJ0, "checkIndex", "(II)V"⟩
def RJ1 : String := "java/lang/StringLatin1"
def TJ1 : u_T := fun k => match k with
  | _ => ("", "", "", false)
def tyJ1 : Nat → FieldType := fun k => match k with
  | _ => .int
abbrev wsJ10 : List Cond := u_ws RJ1 TJ1 0
theorem nmJ1 : ∀ a, a < 0 → ∀ b, b < 0 → a ≠ b → (TJ1 a).2.1 ≠ (TJ1 b).2.1 := by decide +kernel
theorem tyJ1_ok : ∀ k, k < 0 → parseFieldDescriptor (TJ1 k).2.2.1 = some (tyJ1 k) := by decide +kernel
abbrev cJ1_charAt_3b067 : ByteArray := prog_24_method_2_code
def yJ1_charAt_3b067 : MethodName := ⟨RJ1, "charAt", "([BI)C"⟩
def RJ2 : String := "java/lang/StringUTF16"
def TJ2 : u_T := fun k => match k with
  | _ => ("", "", "", false)
def tyJ2 : Nat → FieldType := fun k => match k with
  | _ => .int
abbrev wsJ20 : List Cond := u_ws RJ2 TJ2 0
theorem nmJ2 : ∀ a, a < 0 → ∀ b, b < 0 → a ≠ b → (TJ2 a).2.1 ≠ (TJ2 b).2.1 := by decide +kernel
theorem tyJ2_ok : ∀ k, k < 0 → parseFieldDescriptor (TJ2 k).2.2.1 = some (tyJ2 k) := by decide +kernel
abbrev cJ2_getChar_3b067 : ByteArray := prog_25_method_5_code
def yJ2_getChar_3b067 : MethodName := ⟨RJ2, "getChar", "([BI)C"⟩
abbrev cJ2_length_9d52b : ByteArray := prog_25_method_6_code
def yJ2_length_9d52b : MethodName := ⟨RJ2, "length", "([B)I"⟩
abbrev cJ2_charAt_3b067 : ByteArray := prog_25_method_83_code
def yJ2_charAt_3b067 : MethodName := ⟨RJ2, "charAt", "([BI)C"⟩
abbrev cJ2_checkIndex_2214a : ByteArray := prog_25_method_91_code
def yJ2_checkIndex_2214a : MethodName := ⟨RJ2, "checkIndex", "(I[B)V"⟩
def RJ10 : String := "java/lang/System"
def TJ10 : u_T := fun k => match k with
  | _ => ("", "", "", false)
def tyJ10 : Nat → FieldType := fun k => match k with
  | _ => .int
abbrev wsJ100 : List Cond := u_ws RJ10 TJ10 0
theorem nmJ10 : ∀ a, a < 0 → ∀ b, b < 0 → a ≠ b → (TJ10 a).2.1 ≠ (TJ10 b).2.1 := by decide +kernel
theorem tyJ10_ok : ∀ k, k < 0 → parseFieldDescriptor (TJ10 k).2.2.1 = some (tyJ10 k) := by decide +kernel
def RJxfd54e : String := "java/lang/constant/Constable"
def TJxfd54e : u_T := fun k => match k with
  | _ => ("", "", "", false)
def tyJxfd54e : Nat → FieldType := fun k => match k with
  | _ => .int
abbrev wsJxfd54e0 : List Cond := u_ws RJxfd54e TJxfd54e 0
theorem nmJxfd54e : ∀ a, a < 0 → ∀ b, b < 0 → a ≠ b → (TJxfd54e a).2.1 ≠ (TJxfd54e b).2.1 := by decide +kernel
theorem tyJxfd54e_ok : ∀ k, k < 0 → parseFieldDescriptor (TJxfd54e k).2.2.1 = some (tyJxfd54e k) := by decide +kernel
def RJx3cf43 : String := "java/lang/constant/ConstantDesc"
def TJx3cf43 : u_T := fun k => match k with
  | _ => ("", "", "", false)
def tyJx3cf43 : Nat → FieldType := fun k => match k with
  | _ => .int
abbrev wsJx3cf430 : List Cond := u_ws RJx3cf43 TJx3cf43 0
theorem nmJx3cf43 : ∀ a, a < 0 → ∀ b, b < 0 → a ≠ b → (TJx3cf43 a).2.1 ≠ (TJx3cf43 b).2.1 := by decide +kernel
theorem tyJx3cf43_ok : ∀ k, k < 0 → parseFieldDescriptor (TJx3cf43 k).2.2.1 = some (tyJx3cf43 k) := by decide +kernel
def RJ3 : String := "jdk/internal/util/Preconditions"
def TJ3 : u_T := fun k => match k with
  | _ => ("", "", "", false)
def tyJ3 : Nat → FieldType := fun k => match k with
  | _ => .int
abbrev wsJ30 : List Cond := u_ws RJ3 TJ3 0
theorem nmJ3 : ∀ a, a < 0 → ∀ b, b < 0 → a ≠ b → (TJ3 a).2.1 ≠ (TJ3 b).2.1 := by decide +kernel
theorem tyJ3_ok : ∀ k, k < 0 → parseFieldDescriptor (TJ3 k).2.2.1 = some (tyJ3 k) := by decide +kernel
abbrev cJ3_checkIndex_8e157 : ByteArray := prog_32_method_11_code
def yJ3_checkIndex_8e157 : MethodName := ⟨RJ3, "checkIndex", "(IILjava/util/function/BiFunction;)I"⟩
def RL : String := "PetitionBoardLaw"
abbrev cL_addStone : ByteArray := method_3_code
def yL_addStone : MethodName := ⟨RL, "addStone", "(LPetitionBoard;II[J)I"⟩
abbrev cL_addOfficer : ByteArray := method_4_code
def yL_addOfficer : MethodName := ⟨RL, "addOfficer", "(LPetitionBoard;I[J)I"⟩
abbrev cL_cellOf : ByteArray := method_5_code
def yL_cellOf : MethodName := ⟨RL, "cellOf", "(LPetitionBoard;I[J)I"⟩
abbrev cL_weightOf : ByteArray := method_6_code
def yL_weightOf : MethodName := ⟨RL, "weightOf", "(LPetitionBoard;I[J)I"⟩
abbrev cL_stoneIn : ByteArray := method_7_code
def yL_stoneIn : MethodName := ⟨RL, "stoneIn", "(LPetitionBoard;I[J)I"⟩
abbrev cL_rankOf : ByteArray := method_8_code
def yL_rankOf : MethodName := ⟨RL, "rankOf", "(LPetitionBoard;I[J)I"⟩
abbrev cL_petitionsOf : ByteArray := method_9_code
def yL_petitionsOf : MethodName := ⟨RL, "petitionsOf", "(LPetitionBoard;I[J)I"⟩
abbrev cL_file : ByteArray := method_10_code
def yL_file : MethodName := ⟨RL, "file", "(LPetitionBoard;IIII[J)I"⟩
abbrev cL_vote : ByteArray := method_11_code
def yL_vote : MethodName := ⟨RL, "vote", "(LPetitionBoard;IIZ[J)I"⟩
abbrev cL_cite : ByteArray := method_12_code
def yL_cite : MethodName := ⟨RL, "cite", "(LPetitionBoard;II[J)I"⟩
abbrev cL_veto : ByteArray := method_13_code
def yL_veto : MethodName := ⟨RL, "veto", "(LPetitionBoard;II[J)I"⟩
abbrev cL_withdraw : ByteArray := method_14_code
def yL_withdraw : MethodName := ⟨RL, "withdraw", "(LPetitionBoard;I[J)I"⟩
abbrev cL_petitionAt : ByteArray := method_15_code
def yL_petitionAt : MethodName := ⟨RL, "petitionAt", "(LPetitionBoard;I[J)I"⟩
abbrev cL_positionOf : ByteArray := method_16_code
def yL_positionOf : MethodName := ⟨RL, "positionOf", "(LPetitionBoard;I[J)I"⟩
abbrev cL_stoneOf : ByteArray := method_17_code
def yL_stoneOf : MethodName := ⟨RL, "stoneOf", "(LPetitionBoard;I[J)I"⟩
abbrev cL_targetOf : ByteArray := method_18_code
def yL_targetOf : MethodName := ⟨RL, "targetOf", "(LPetitionBoard;I[J)I"⟩
abbrev cL_votesFor : ByteArray := method_19_code
def yL_votesFor : MethodName := ⟨RL, "votesFor", "(LPetitionBoard;I[J)I"⟩
abbrev cL_votesAgainst : ByteArray := method_20_code
def yL_votesAgainst : MethodName := ⟨RL, "votesAgainst", "(LPetitionBoard;I[J)I"⟩
abbrev cL_wouldBeGranted : ByteArray := method_21_code
def yL_wouldBeGranted : MethodName := ⟨RL, "wouldBeGranted", "(LPetitionBoard;I[J)I"⟩
abbrev cL_setQuorum : ByteArray := method_22_code
def yL_setQuorum : MethodName := ⟨RL, "setQuorum", "(LPetitionBoard;I[J)I"⟩
abbrev cL_decide : ByteArray := method_23_code
def yL_decide : MethodName := ⟨RL, "decide", "(LPetitionBoard;[J)I"⟩
abbrev cL_isGranted : ByteArray := method_24_code
def yL_isGranted : MethodName := ⟨RL, "isGranted", "(LPetitionBoard;I[J)I"⟩
abbrev cL_isCarriedOut : ByteArray := method_25_code
def yL_isCarriedOut : MethodName := ⟨RL, "isCarriedOut", "(LPetitionBoard;I[J)I"⟩
abbrev cL_citationCount : ByteArray := method_26_code
def yL_citationCount : MethodName := ⟨RL, "citationCount", "(LPetitionBoard;I[J)I"⟩
abbrev cL_citation : ByteArray := method_27_code
def yL_citation : MethodName := ⟨RL, "citation", "(LPetitionBoard;II[J)I"⟩
abbrev cL_citedBy : ByteArray := method_28_code
def yL_citedBy : MethodName := ⟨RL, "citedBy", "(LPetitionBoard;I[J)I"⟩
abbrev cL_depth : ByteArray := method_29_code
def yL_depth : MethodName := ⟨RL, "depth", "(LPetitionBoard;I[J)I"⟩
abbrev cL_isBasedOn : ByteArray := method_30_code
def yL_isBasedOn : MethodName := ⟨RL, "isBasedOn", "(LPetitionBoard;II[J)I"⟩
abbrev cL_influence : ByteArray := method_31_code
def yL_influence : MethodName := ⟨RL, "influence", "(LPetitionBoard;I[J)I"⟩
abbrev cL_influenceByMarking : ByteArray := method_32_code
def yL_influenceByMarking : MethodName := ⟨RL, "influenceByMarking", "(LPetitionBoard;I[J)I"⟩
abbrev cL_rulingByInfluence : ByteArray := method_33_code
def yL_rulingByInfluence : MethodName := ⟨RL, "rulingByInfluence", "(LPetitionBoard;I[J)I"⟩
abbrev cL_meanVotes : ByteArray := method_34_code
def yL_meanVotes : MethodName := ⟨RL, "meanVotes", "(LPetitionBoard;[D)I"⟩
abbrev cL_grantedShare : ByteArray := method_35_code
def yL_grantedShare : MethodName := ⟨RL, "grantedShare", "(LPetitionBoard;[D)I"⟩
abbrev cL_feed : ByteArray := method_36_code
def yL_feed : MethodName := ⟨RL, "feed", "(LPetitionBoard;C[J)I"⟩
abbrev cL_execute : ByteArray := method_37_code
def yL_execute : MethodName := ⟨RL, "execute", "(LPetitionBoard;[J)I"⟩
abbrev cL_faultPosition : ByteArray := method_38_code
def yL_faultPosition : MethodName := ⟨RL, "faultPosition", "(LPetitionBoard;[J)I"⟩
abbrev cL_writePetition : ByteArray := method_39_code
def yL_writePetition : MethodName := ⟨RL, "writePetition", "(LPetitionBoard;I[J)I"⟩
abbrev cL_writeRow : ByteArray := method_40_code
def yL_writeRow : MethodName := ⟨RL, "writeRow", "(LPetitionBoard;I[J)I"⟩
abbrev cL_lineCharacter : ByteArray := method_41_code
def yL_lineCharacter : MethodName := ⟨RL, "lineCharacter", "(LPetitionBoard;I[J)I"⟩
abbrev cL_denial : ByteArray := method_42_code
def yL_denial : MethodName := ⟨RL, "denial", "(LPetitionBoard;[J)I"⟩
abbrev cL_denialDetail : ByteArray := method_43_code
def yL_denialDetail : MethodName := ⟨RL, "denialDetail", "(LPetitionBoard;[J)I"⟩
abbrev cL_denialCause : ByteArray := method_44_code
def yL_denialCause : MethodName := ⟨RL, "denialCause", "(LPetitionBoard;[J)I"⟩
abbrev cL_denialCauseDetail : ByteArray := method_45_code
def yL_denialCauseDetail : MethodName := ⟨RL, "denialCauseDetail", "(LPetitionBoard;[J)I"⟩
abbrev cL_undo : ByteArray := method_46_code
def yL_undo : MethodName := ⟨RL, "undo", "(LPetitionBoard;[J)I"⟩
abbrev cL_restoreSnapshot : ByteArray := method_47_code
def yL_restoreSnapshot : MethodName := ⟨RL, "restoreSnapshot", "(LPetitionBoard;[J)I"⟩
abbrev cL_law : ByteArray := code
def yL_law : MethodName := ⟨RL, "law", "([I)Z"⟩
/-- a method's instructions, checked against its bytes: place, instruction, length -/
abbrev dk_T : Type := List (Nat × Instr × Nat)
def dk_ok (c : ByteArray) (l : dk_T) : Bool := l.all fun q => decide (decode c q.1 = .ok q.2)
theorem dk {c : ByteArray} {l : dk_T} (h : dk_ok c l = true) (i : Nat) {pc n : Nat} {x : Instr} (hi : l[i]? = some (pc, x, n)) : decode c pc = .ok (x, n) := by
  unfold dk_ok at h
  have h1 : decide (decode c pc = .ok (x, n)) = true := List.all_eq_true.mp h (pc, x, n) (List.mem_of_getElem? hi)
  exact of_decide_eq_true h1
end
section
/-! MEMORY: what the program's own cells hold, by address: kind (0 none; 1 + the place in ac_cls; 20 int[], 21 char[], 22 long[], 23 double[], 30.. rows of references), length, ints, references, longs, doubles, and the heap's size -/
abbrev Mm : Type := (Nat → Nat) × (Nat → Nat) × (Nat → Nat → Int32) × (Nat → Nat → Option Nat) × (Nat → Nat → Int64) × (Nat → Nat → UInt64) × Nat
def kd (M : Mm) : Nat → Nat := M.1
def ln (M : Mm) : Nat → Nat := M.2.1
def mi (M : Mm) : Nat → Nat → Int32 := M.2.2.1
def mr (M : Mm) : Nat → Nat → Option Nat := M.2.2.2.1
def mj (M : Mm) : Nat → Nat → Int64 := M.2.2.2.2.1
def md (M : Mm) : Nat → Nat → UInt64 := M.2.2.2.2.2.1
def nx (M : Mm) : Nat := M.2.2.2.2.2.2
def u2 {α : Type} (f : Nat → Nat → α) (a j : Nat) (v : α) : Nat → Nat → α := va_up f a (va_up (f a) j v)
theorem u2_s {α : Type} (f : Nat → Nat → α) (a j : Nat) (v : α) : u2 f a j v a = va_up (f a) j v := va_up_self _ _ _
theorem u2_n {α : Type} (f : Nat → Nat → α) {a b : Nat} (j : Nat) (v : α) (h : b ≠ a) : u2 f a j v b = f b := va_up_ne _ _ h
def sI (M : Mm) (a j : Nat) (v : Int32) : Mm := (kd M, ln M, u2 (mi M) a j v, mr M, mj M, md M, nx M)
def sR (M : Mm) (a j : Nat) (v : Option Nat) : Mm := (kd M, ln M, mi M, u2 (mr M) a j v, mj M, md M, nx M)
def sJ (M : Mm) (a j : Nat) (v : Int64) : Mm := (kd M, ln M, mi M, mr M, u2 (mj M) a j v, md M, nx M)
def sD (M : Mm) (a j : Nat) (v : UInt64) : Mm := (kd M, ln M, mi M, mr M, mj M, u2 (md M) a j v, nx M)
/-- a new thing at the heap's end: of kind k, length n, all zero -/
def sN (M : Mm) (k n : Nat) : Mm := (va_up (kd M) (nx M) k, va_up (ln M) (nx M) n, va_up (mi M) (nx M) (fun _ => 0), va_up (mr M) (nx M) (fun _ => none), va_up (mj M) (nx M) (fun _ => 0), va_up (md M) (nx M) (fun _ => 0), nx M + 1)
/-- the heap's end alone moves -/
def sX (M : Mm) (n : Nat) : Mm := (kd M, ln M, mi M, mr M, mj M, md M, n)
theorem kd_sI (M : Mm) (a j : Nat) (v : Int32) : kd (sI M a j v) = kd M := rfl
theorem ln_sI (M : Mm) (a j : Nat) (v : Int32) : ln (sI M a j v) = ln M := rfl
theorem mi_sI (M : Mm) (a j : Nat) (v : Int32) : mi (sI M a j v) = u2 (mi M) a j v := rfl
theorem mr_sI (M : Mm) (a j : Nat) (v : Int32) : mr (sI M a j v) = mr M := rfl
theorem mj_sI (M : Mm) (a j : Nat) (v : Int32) : mj (sI M a j v) = mj M := rfl
theorem md_sI (M : Mm) (a j : Nat) (v : Int32) : md (sI M a j v) = md M := rfl
theorem nx_sI (M : Mm) (a j : Nat) (v : Int32) : nx (sI M a j v) = nx M := rfl
theorem kd_sR (M : Mm) (a j : Nat) (v : Option Nat) : kd (sR M a j v) = kd M := rfl
theorem ln_sR (M : Mm) (a j : Nat) (v : Option Nat) : ln (sR M a j v) = ln M := rfl
theorem mi_sR (M : Mm) (a j : Nat) (v : Option Nat) : mi (sR M a j v) = mi M := rfl
theorem mr_sR (M : Mm) (a j : Nat) (v : Option Nat) : mr (sR M a j v) = u2 (mr M) a j v := rfl
theorem mj_sR (M : Mm) (a j : Nat) (v : Option Nat) : mj (sR M a j v) = mj M := rfl
theorem md_sR (M : Mm) (a j : Nat) (v : Option Nat) : md (sR M a j v) = md M := rfl
theorem nx_sR (M : Mm) (a j : Nat) (v : Option Nat) : nx (sR M a j v) = nx M := rfl
theorem kd_sX (M : Mm) (n : Nat) : kd (sX M n) = kd M := rfl
theorem ln_sX (M : Mm) (n : Nat) : ln (sX M n) = ln M := rfl
theorem mi_sX (M : Mm) (n : Nat) : mi (sX M n) = mi M := rfl
theorem mr_sX (M : Mm) (n : Nat) : mr (sX M n) = mr M := rfl
theorem mj_sX (M : Mm) (n : Nat) : mj (sX M n) = mj M := rfl
theorem md_sX (M : Mm) (n : Nat) : md (sX M n) = md M := rfl
theorem nx_sX (M : Mm) (n : Nat) : nx (sX M n) = n := rfl
/-- the classes whose objects the memory holds -/
abbrev ac_cls : List vw_C := [(RX1, TX1, 6), (RX2, TX2, 2), (RX3, TX3, 2), (RX4, TX4, 12), (RX5, TX5, 7), (RX6, TX6, 14), (RX7, TX7, 3), (RX8, TX8, 15), (RX9, TX9, 22)]
def fTy : Nat → Nat → FieldType := fun ci => match ci with
  | 0 => tyX1
  | 1 => tyX2
  | 2 => tyX3
  | 3 => tyX4
  | 4 => tyX5
  | 5 => tyX6
  | 6 => tyX7
  | 7 => tyX8
  | 8 => tyX9
  | _ => fun _ => .int
def nF : Nat → Nat := fun ci => match ci with
  | 0 => 6
  | 1 => 2
  | 2 => 2
  | 3 => 12
  | 4 => 7
  | 5 => 14
  | 6 => 3
  | 7 => 15
  | 8 => 22
  | _ => 0
def refT : FieldType → Bool := fun t => match t with
  | .object _ => true
  | .array _ => true
  | _ => false
theorem ac_ok {ci N : Nat} {C : String} {T : u_T} (h : ac_cls[ci]? = some (C, T, N)) : (∀ k, k < N → parseFieldDescriptor (T k).2.2.1 = some (fTy ci k)) ∧ (∀ a, a < N → ∀ b, b < N → a ≠ b → (T a).2.1 ≠ (T b).2.1) ∧ N = nF ci ∧ ci < 9 := by
  match ci, h with
  | 0, h => cases h; exact ⟨tyX1_ok, nmX1, rfl, by decide⟩
  | 1, h => cases h; exact ⟨tyX2_ok, nmX2, rfl, by decide⟩
  | 2, h => cases h; exact ⟨tyX3_ok, nmX3, rfl, by decide⟩
  | 3, h => cases h; exact ⟨tyX4_ok, nmX4, rfl, by decide⟩
  | 4, h => cases h; exact ⟨tyX5_ok, nmX5, rfl, by decide⟩
  | 5, h => cases h; exact ⟨tyX6_ok, nmX6, rfl, by decide⟩
  | 6, h => cases h; exact ⟨tyX7_ok, nmX7, rfl, by decide⟩
  | 7, h => cases h; exact ⟨tyX8_ok, nmX8, rfl, by decide⟩
  | 8, h => cases h; exact ⟨tyX9_ok, nmX9, rfl, by decide⟩
  | n + 9, h => simp at h
def flds (ci : Nat) (M : Mm) (a : Nat) : List Value := (List.range (nF ci)).map fun j => if refT (fTy ci j) = true then va_rf (mr M a j) else .int (mi M a j)
def ent (cy : Nat → ClassId) (M : Mm) (a : Nat) : va_E :=
  if kd M a = 20 then .inl (cy 0, (ln M a, .inl (mi M a)))
  else if kd M a = 21 then .inl (cy 1, (ln M a, .inl (mi M a)))
  else if kd M a = 22 then .inl (cy 2, (ln M a, .inr (.inl (mj M a))))
  else if kd M a = 23 then .inl (cy 3, (ln M a, .inr (.inr (.inr (.inl (md M a))))))
  else if 30 ≤ kd M a then .inl (cy (kd M a - 26), (ln M a, .inr (.inr (.inr (.inr (mr M a))))))
  else .inr (kd M a - 1, flds (kd M a - 1) M a)
theorem ent_o {cy : Nat → ClassId} {M : Mm} {a ci : Nat} (h : kd M a = ci + 1) (hc : ci < 9) : ent cy M a = .inr (ci, flds ci M a) := by
  unfold ent
  rw [if_neg (by omega), if_neg (by omega), if_neg (by omega), if_neg (by omega), if_neg (by omega), h]
  rfl
theorem ent_i {cy : Nat → ClassId} {M : Mm} {a : Nat} (h : kd M a = 20) : ent cy M a = .inl (cy 0, (ln M a, .inl (mi M a))) := by
  unfold ent
  rw [if_pos h]
theorem ent_c {cy : Nat → ClassId} {M : Mm} {a : Nat} (h : kd M a = 21) : ent cy M a = .inl (cy 1, (ln M a, .inl (mi M a))) := by
  unfold ent
  rw [if_neg (by omega), if_pos h]
theorem ent_j {cy : Nat → ClassId} {M : Mm} {a : Nat} (h : kd M a = 22) : ent cy M a = .inl (cy 2, (ln M a, .inr (.inl (mj M a)))) := by
  unfold ent
  rw [if_neg (by omega), if_neg (by omega), if_pos h]
theorem ent_d {cy : Nat → ClassId} {M : Mm} {a : Nat} (h : kd M a = 23) : ent cy M a = .inl (cy 3, (ln M a, .inr (.inr (.inr (.inl (md M a)))))) := by
  unfold ent
  rw [if_neg (by omega), if_neg (by omega), if_neg (by omega), if_pos h]
theorem ent_q {cy : Nat → ClassId} {M : Mm} {a t : Nat} (h : kd M a = 30 + t) : ent cy M a = .inl (cy (4 + t), (ln M a, .inr (.inr (.inr (.inr (mr M a)))))) := by
  unfold ent
  rw [if_neg (by omega), if_neg (by omega), if_neg (by omega), if_neg (by omega), if_pos (by omega), h, show 30 + t - 26 = 4 + t by omega]
theorem flds_ext {ci : Nat} {M M' : Mm} {a : Nat} (hi : mi M a = mi M' a) (hr : mr M a = mr M' a) : flds ci M a = flds ci M' a := by
  unfold flds
  rw [hi, hr]
theorem ent_ext {cy : Nat → ClassId} {M M' : Mm} {a : Nat} (hk : kd M a = kd M' a) (hl : ln M a = ln M' a) (hi : mi M a = mi M' a) (hr : mr M a = mr M' a) (hj : mj M a = mj M' a) (hd : md M a = md M' a) : ent cy M a = ent cy M' a := by
  unfold ent
  rw [hk, hl, hi, hr, hj, hd, flds_ext hi hr]
theorem flds_len (ci : Nat) (M : Mm) (a : Nat) : (flds ci M a).length = nF ci := by simp [flds]
theorem flds_i {ci j : Nat} {M : Mm} {a : Nat} (hj : j < nF ci) (ht : refT (fTy ci j) = false) : (flds ci M a)[j]? = some (.int (mi M a j)) := by
  simp [flds, hj, ht]
theorem flds_r {ci j : Nat} {M : Mm} {a : Nat} (hj : j < nF ci) (ht : refT (fTy ci j) = true) : (flds ci M a)[j]? = some (va_rf (mr M a j)) := by
  simp [flds, hj, ht]
theorem flds_si {ci j : Nat} {M : Mm} {a : Nat} {v : Int32} (hj : j < nF ci) (ht : refT (fTy ci j) = false) : (flds ci M a).set j (.int v) = flds ci (sI M a j v) a := by
  apply List.ext_getElem?
  intro k
  by_cases hk : k = j
  · subst hk
    rw [List.getElem?_set_self (by rw [flds_len]; exact hj), flds_i hj ht, mi_sI, u2_s, va_up_self]
  · rw [List.getElem?_set_ne (Ne.symm hk)]
    by_cases hn : k < nF ci
    · cases hr : refT (fTy ci k) with
      | false => rw [flds_i hn hr, flds_i hn hr, mi_sI, u2_s, va_up_ne _ _ hk]
      | true => rw [flds_r hn hr, flds_r hn hr, mr_sI]
    · rw [List.getElem?_eq_none (by rw [flds_len]; omega), List.getElem?_eq_none (by rw [flds_len]; omega)]
theorem flds_sr {ci j : Nat} {M : Mm} {a : Nat} {v : Option Nat} (hj : j < nF ci) (ht : refT (fTy ci j) = true) : (flds ci M a).set j (va_rf v) = flds ci (sR M a j v) a := by
  apply List.ext_getElem?
  intro k
  by_cases hk : k = j
  · subst hk
    rw [List.getElem?_set_self (by rw [flds_len]; exact hj), flds_r hj ht, mr_sR, u2_s, va_up_self]
  · rw [List.getElem?_set_ne (Ne.symm hk)]
    by_cases hn : k < nF ci
    · cases hr : refT (fTy ci k) with
      | false => rw [flds_i hn hr, flds_i hn hr, mi_sR]
      | true => rw [flds_r hn hr, flds_r hn hr, mr_sR, u2_s, va_up_ne _ _ hk]
    · rw [List.getElem?_eq_none (by rw [flds_len]; omega), List.getElem?_eq_none (by rw [flds_len]; omega)]
/-- the memory's picture behind a write -/
theorem ent_up {cy : Nat → ClassId} {M M' : Mm} {a : Nat} {e : va_E} (h : ent cy M' a = e) (ho : ∀ b, b ≠ a → kd M b = kd M' b ∧ ln M b = ln M' b ∧ mi M b = mi M' b ∧ mr M b = mr M' b ∧ mj M b = mj M' b ∧ md M b = md M' b) : ∀ b, va_up (ent cy M) a e b = ent cy M' b := by
  intro b
  by_cases hb : b = a
  · subst hb
    rw [va_up_self, h]
  · rw [va_up_ne _ _ hb]
    obtain ⟨h1, h2, h3, h4, h5, h6⟩ := ho b hb
    exact ent_ext h1 h2 h3 h4 h5 h6
theorem up_sI {M : Mm} {a j : Nat} {v : Int32} : ∀ b, b ≠ a → kd M b = kd (sI M a j v) b ∧ ln M b = ln (sI M a j v) b ∧ mi M b = mi (sI M a j v) b ∧ mr M b = mr (sI M a j v) b ∧ mj M b = mj (sI M a j v) b ∧ md M b = md (sI M a j v) b :=
  fun b hb => ⟨rfl, rfl, (u2_n _ _ _ hb).symm, rfl, rfl, rfl⟩
theorem up_sR {M : Mm} {a j : Nat} {v : Option Nat} : ∀ b, b ≠ a → kd M b = kd (sR M a j v) b ∧ ln M b = ln (sR M a j v) b ∧ mi M b = mi (sR M a j v) b ∧ mr M b = mr (sR M a j v) b ∧ mj M b = mj (sR M a j v) b ∧ md M b = md (sR M a j v) b :=
  fun b hb => ⟨rfl, rfl, rfl, (u2_n _ _ _ hb).symm, rfl, rfl⟩
theorem up_sJ {M : Mm} {a j : Nat} {v : Int64} : ∀ b, b ≠ a → kd M b = kd (sJ M a j v) b ∧ ln M b = ln (sJ M a j v) b ∧ mi M b = mi (sJ M a j v) b ∧ mr M b = mr (sJ M a j v) b ∧ mj M b = mj (sJ M a j v) b ∧ md M b = md (sJ M a j v) b :=
  fun b hb => ⟨rfl, rfl, rfl, rfl, (u2_n _ _ _ hb).symm, rfl⟩
theorem up_sD {M : Mm} {a j : Nat} {v : UInt64} : ∀ b, b ≠ a → kd M b = kd (sD M a j v) b ∧ ln M b = ln (sD M a j v) b ∧ mi M b = mi (sD M a j v) b ∧ mr M b = mr (sD M a j v) b ∧ mj M b = mj (sD M a j v) b ∧ md M b = md (sD M a j v) b :=
  fun b hb => ⟨rfl, rfl, rfl, rfl, rfl, (u2_n _ _ _ hb).symm⟩
theorem up_sN {M : Mm} {k n : Nat} : ∀ b, b ≠ nx M → kd M b = kd (sN M k n) b ∧ ln M b = ln (sN M k n) b ∧ mi M b = mi (sN M k n) b ∧ mr M b = mr (sN M k n) b ∧ mj M b = mj (sN M k n) b ∧ md M b = md (sN M k n) b :=
  fun b hb => ⟨(va_up_ne _ _ hb).symm, (va_up_ne _ _ hb).symm, (va_up_ne _ _ hb).symm, (va_up_ne _ _ hb).symm, (va_up_ne _ _ hb).symm, (va_up_ne _ _ hb).symm⟩
/-- the environment: launch, the heap's size at the law's start, class numbers and slots, array classes, the script (cell, length, ints), the texts' addresses -/
abbrev GG : Type := Launch × Nat × va_G × (Nat → ClassId) × (Nat × Nat × (Nat → Int32)) × (Nat → Nat) × (Nat → Nat)
abbrev gl (G : GG) : Launch := G.1
abbrev gb (G : GG) : Nat := G.2.1
abbrev gD (G : GG) : va_G := G.2.2.1
abbrev gy (G : GG) : Nat → ClassId := G.2.2.2.1
abbrev gs (G : GG) : Nat × Nat × (Nat → Int32) := G.2.2.2.2.1
abbrev gk (G : GG) : Nat → Nat := G.2.2.2.2.2.1
abbrev gv (G : GG) : Nat → Nat := G.2.2.2.2.2.2
def gA (G : GG) : Nat → Prop := fun q => gb G ≤ q
abbrev ac_tys (cy : Nat → ClassId) : List (ClassId × FieldType) := [(cy 0, .int), (cy 1, .char), (cy 2, .long), (cy 3, .double), (cy 4, .object RX1), (cy 5, .object RX4), (cy 6, .object RX5), (cy 7, .object RX6)]
end
section
/-! THE WORLD: the memory in a heap, and what else of the heap is known; then the wp over the memory, WW, and its rows -/
def lwG : List Cond := lw_tbl.filter goodWord
theorem wm {w : Cond} (i : Nat) (h : lw_tbl[i]? = some w) (hg : goodWord w = true) : w ∈ lwG := List.mem_filter.mpr ⟨List.mem_of_getElem? h, hg⟩
theorem lwG_good : GoodIn lwG lwG := fun w h => ⟨h, good_of_word (List.mem_filter.mp h).2⟩
theorem lwG_sub {ws : List Cond} (h : ∀ w ∈ ws, w ∈ lwG) : GoodIn lwG ws := fun w hw => lwG_good w (h w hw)
/-- the texts that are read: their lengths and bytes -/
def tx_len : List Nat := [9, 9, 8, 12, 7, 6, 8, 8, 10, 6, 0, 5, 7, 6, 4, 3, 2, 4, 4, 8]
def tx_byt : List (List Int32) := [[115, 116, 111, 110, 101, 32, 78, 32, 68], [111, 102, 102, 105, 99, 101, 114, 32, 68], [113, 117, 111, 114, 117, 109, 32, 68], [102, 105, 108, 101, 32, 68, 32, 68, 32, 78, 32, 68], [121, 101, 115, 32, 68, 32, 78], [110, 111, 32, 68, 32, 78], [99, 105, 116, 101, 32, 78, 32, 78], [118, 101, 116, 111, 32, 68, 32, 78], [119, 105, 116, 104, 100, 114, 97, 119, 32, 78], [100, 101, 99, 105, 100, 101], [], [115, 116, 111, 110, 101], [111, 102, 102, 105, 99, 101, 114], [113, 117, 111, 114, 117, 109], [102, 105, 108, 101], [121, 101, 115], [110, 111], [99, 105, 116, 101], [118, 101, 116, 111], [119, 105, 116, 104, 100, 114, 97, 119]]
/-- .. where a class's constant names one: class, place in its pool, text, number -/
def tx_tab : List (String × Nat × String × Nat) := [(RX7, 70, "stone N D", 0), (RX7, 72, "officer D", 1), (RX7, 74, "quorum D", 2), (RX7, 76, "file D D N D", 3), (RX7, 78, "yes D N", 4), (RX7, 80, "no D N", 5), (RX7, 82, "cite N N", 6), (RX7, 84, "veto D N", 7), (RX7, 86, "withdraw N", 8), (RX7, 88, "decide", 9), (RX7, 90, "", 10), (RX9, 188, "stone", 11), (RX9, 197, "officer", 12), (RX9, 199, "quorum", 13), (RX9, 201, "file", 14), (RX9, 203, "yes", 15), (RX9, 205, "no", 16), (RX9, 207, "cite", 17), (RX9, 209, "veto", 18), (RX9, 211, "withdraw", 19), (RX9, 213, "decide", 9)]
/-- the messages of the exceptions -/
def xs_tab : List (Nat × String) := [(105, "no such officer"), (139, "no such position"), (216, "no such rank"), (235, "no petition is pending"), (241, "there are no rulings"), (248, "the text buffer is full"), (267, "the text does not match the grammar"), (279, "a command failed"), (288, "no fault position was kept yet"), (299, "no such row"), (305, "no such index"), (330, "no change can be undone"), (341, "there is no snapshot"), (398, "no such stone, officer or cell"), (400, "a value is out of range"), (402, "no such pending petition or ruling"), (408, "the call is denied"), (436, "no such pending petition"), (438, "no such ruling"), (440, "nothing was denied yet"), (442, "no denial with a cause is the latest"), (75, "no such stone"), (89, "no such cell"), (96, "no stone is in the cell")]
/-- constructors called between nest mates: caller's class, place, constructor -/
def nw_tab : List (String × Nat × MethodName) := [(RX6, 33, yX4_init), (RX4, 1, yX0_init), (RX6, 34, yX5_init), (RX5, 1, yX0_init), (RX8, 28, yX3_init), (RX7, 17, yX1_init)]
/-- what of the tables doesn't travel by itself -/
def St (G : GG) (U : State) : Prop := (gl G).stackTraces = false ∧ (∀ q ∈ tx_tab, vk_R q.1 q.2.1 q.2.2.1 (gk G q.2.2.2) U) ∧ (∀ q ∈ xs_tab, ∃ a, vk_R RX8 q.1 q.2 a U) ∧ va_AO RX1 U ∧ va_AO RX4 U ∧ va_AO RX5 U ∧ va_AO RX6 U ∧ ∀ q ∈ nw_tab, va_Nw (.methodLinkNest q.1 q.2.1 q.2.2 "PetitionBoard") U
theorem St.warm {G : GG} {s U : State} (hW : s.WarmedH U.vm) (h : St G s) : St G U := by
  obtain ⟨h1, h2, h3, h4, h5, h6, h7, h8⟩ := h
  refine ⟨h1, fun q hq => (h2 q hq).warm hW, fun q hq => ?_, h4.moved hW.alike, h5.moved hW.alike, h6.moved hW.alike, h7.moved hW.alike, fun q hq => (h8 q hq).warmM hW⟩
  obtain ⟨a, ha⟩ := h3 q hq
  exact ⟨a, ha.warm hW⟩
/-- what of the heap below the law's start is known -/
def Ext (G : GG) (U : State) (H : Heap) : Prop := gb G ≤ H.size ∧ (gs G).1 < gb G ∧ va_X (gs G).1 (gs G).2.1 (gs G).2.2 U H ∧ vx_Zq Bundle.tN "UNASSIGNED_STACK" Bundle.steD (gA G) U H ∧ vx_Zq Bundle.tN "SUPPRESSED_SENTINEL" Bundle.listD (gA G) U H ∧ vk_S 20 tx_len tx_byt (gk G) (gv G) (gA G) U H ∧ va_Z "java/lang/String" "COMPACT_STRINGS" "Z" (.int 1) (gA G) U H ∧ va_Zq "jdk/internal/util/Preconditions" "SIOOBE_FORMATTER" "Ljava/util/function/BiFunction;" (gA G) U H
theorem Ext.moved {G : GG} {u U : State} {H : Heap} (hvm : u.vm.Alike U.vm) (h : Ext G u H) : Ext G U H := by
  obtain ⟨h0, h1, h2, h3, h4, h5, h6, h7⟩ := h
  exact ⟨h0, h1, h2.moved hvm, h3.moved hvm, h4.moved hvm, h5.moved hvm, va_Z.moved hvm h6, va_Zq.moved hvm h7⟩
theorem Ext.kept {G : GG} {U : State} {H H1 : Heap} (h : Ext G U H) (hz : H.size ≤ H1.size) (hq : ∀ a : Nat, a < H.size → ¬ gA G a → H1[a]? = H[a]?) : Ext G U H1 := by
  obtain ⟨h0, h1, h2, h3, h4, h5, h6, h7⟩ := h
  exact ⟨Nat.le_trans h0 hz, h1, h2.kept (hq _ (Nat.lt_of_lt_of_le h1 h0) (Nat.not_le.mpr h1)), h3.kept hq, h4.kept hq, h5.kept hq, va_Z.kept h6 hq, va_Zq.kept h7 hq⟩
/-- the memory in the heap -/
def Pm (G : GG) (M : Mm) (H : Heap) : Prop := H.size = nx M ∧ ∃ L : List Nat, (∀ a, kd M a ≠ 0 → a ∈ L) ∧ va_P (gD G) ac_cls (va_pl L (ent (gy G) M)) H ∧ va_D (gA G) (va_pl L (ent (gy G) M))
abbrev Kw (G : GG) (U : State) : Prop := va_K (gD G) ac_cls (ac_tys (gy G)) U
def Wd (G : GG) (M : Mm) (U : State) (H : Heap) : Prop := Pm G M H ∧ Kw G U ∧ Ext G U H
theorem Wd.moved {G : GG} {M : Mm} {u U : State} {H : Heap} (hvm : u.vm.Alike U.vm) (h : Wd G M u H) : Wd G M U H := ⟨h.1, va_K.moved hvm h.2.1, h.2.2.moved hvm⟩
theorem Pm.lt {G : GG} {M : Mm} {H : Heap} (h : Pm G M H) {a : Nat} (ha : kd M a ≠ 0) : a < nx M := by
  obtain ⟨hz, L, hL, hP, hD⟩ := h
  rw [← hz]
  exact va_pl_lt (X := []) hP (hL a ha)
theorem Pm.ge {G : GG} {M : Mm} {H : Heap} (h : Pm G M H) {a : Nat} (ha : kd M a ≠ 0) : gb G ≤ a := by
  obtain ⟨hz, L, hL, hP, hD⟩ := h
  obtain ⟨k, hk⟩ := va_pl_get (X := []) (f := ent (gy G) M) (hL a ha)
  exact hD.2 k _ hk
/-- a method: name, bytes, locals, what it returns, its room, its handlers -/
abbrev MI : Type := MethodName × ByteArray × Nat × Option FieldType × Room × List (Nat × Nat × Nat × Nat)
abbrev mY (I : MI) : MethodName := I.1
abbrev mB (I : MI) : ByteArray := I.2.1
abbrev mL (I : MI) : Nat := I.2.2.1
abbrev mT (I : MI) : Option FieldType := I.2.2.2.1
abbrev mR (I : MI) : Room := I.2.2.2.2.1
abbrev mH (I : MI) : List (Nat × Nat × Nat × Nat) := I.2.2.2.2.2
/-- the room of depth d, k cells and n slots -/
abbrev rmd (d k n : Nat) : Room := { frames := d + 20, cells := k, slots := n, locals := 40 * d + 200 }
/-- the locals, by their places; a returnAddress stands for 'not known' -/
def lz : Nat → List Value → List (Nat × Value)
  | _, [] => []
  | i, .retAddr _ :: vs => lz (i + 1) vs
  | i, v :: vs => (i, v) :: lz (i + 1) vs
abbrev lj : Value := .retAddr 0
theorem lz_inv : ∀ (vs : List Value) (j : Nat) (q : Nat × Value), q ∈ lz j vs → ∃ i, q.1 = j + i ∧ vs[i]? = some q.2 ∧ ∀ x, q.2 ≠ .retAddr x
  | [], j, q, h => by cases h
  | v :: vs, j, q, h => by
    by_cases hv : ∃ x, v = .retAddr x
    · obtain ⟨x, rfl⟩ := hv
      obtain ⟨i, h1, h2, h3⟩ := lz_inv vs (j + 1) q h
      exact ⟨i + 1, by omega, by simpa using h2, h3⟩
    · have hz : lz j (v :: vs) = (j, v) :: lz (j + 1) vs := by
        cases v <;> first | rfl | exact absurd ⟨_, rfl⟩ hv
      rw [hz] at h
      rcases List.mem_cons.mp h with rfl | h
      · exact ⟨0, rfl, rfl, fun x hx => hv ⟨x, hx⟩⟩
      · obtain ⟨i, h1, h2, h3⟩ := lz_inv vs (j + 1) q h
        exact ⟨i + 1, by omega, by simpa using h2, h3⟩
theorem lz_mem : ∀ (vs : List Value) (j i : Nat) (v : Value), vs[i]? = some v → (∀ x, v ≠ .retAddr x) → (j + i, v) ∈ lz j vs
  | [], j, i, v, h, _ => by simp at h
  | w :: vs, j, i, v, h, hv => by
    cases i with
    | zero =>
      simp at h
      subst h
      have hz : lz j (w :: vs) = (j, w) :: lz (j + 1) vs := by
        cases w <;> first | rfl | exact absurd rfl (hv _)
      rw [hz]
      exact List.mem_cons_self
    | succ i =>
      have h2 : vs[i]? = some v := by simpa using h
      have h3 := lz_mem vs (j + 1) i v h2 hv
      rw [show j + 1 + i = j + (i + 1) by omega] at h3
      by_cases hw : ∃ x, w = .retAddr x
      · obtain ⟨x, rfl⟩ := hw
        exact h3
      · have hz : lz j (w :: vs) = (j, w) :: lz (j + 1) vs := by
          cases w <;> first | rfl | exact absurd ⟨_, rfl⟩ hw
        rw [hz]
        exact List.mem_cons_of_mem _ h3
theorem lz_at {ls : Array Slot} {n : Nat} {L : List Value} (h : lv_has ls n (lz 0 L)) {i : Nat} {v : Value} (hi : L[i]? = some v) (hv : ∀ x, v ≠ .retAddr x) : ls[i]? = some (.val v) := by
  have h1 := lz_mem L 0 i v hi hv
  rw [Nat.zero_add] at h1
  exact h.2.2 _ h1
/-- nothing of two slots ends at place i -/
def okc (L : List Value) : Nat → Bool
  | 0 => true
  | j + 1 => match L[j]? with
    | some w => w.category == 1
    | none => true
theorem lz_st {ls : Array Slot} {n i : Nat} {L : List Value} {v : Value} (hk : okc L i = true) (h : lv_has ls n ((i, v) :: (lz 0 L).filter (fun q => !(q.1 == i) && !(q.1 + 1 == i && q.2.category == 2)))) : lv_has ls n (lz 0 (L.set i v)) := by
  refine ⟨h.1, h.2.1, fun q hq => ?_⟩
  obtain ⟨j, h1, h2, h3⟩ := lz_inv _ _ _ hq
  rw [Nat.zero_add] at h1
  subst h1
  obtain ⟨j, w⟩ := q
  dsimp only at h2 h3 ⊢
  by_cases hj : j = i
  · subst hj
    have hl : j < L.length := by
      have := (List.getElem?_eq_some_iff.mp h2).1
      simpa using this
    rw [List.getElem?_set_self hl] at h2
    cases h2
    exact h.2.2 _ List.mem_cons_self
  · rw [List.getElem?_set_ne (Ne.symm hj)] at h2
    have h4 := lz_mem L 0 j w h2 h3
    rw [Nat.zero_add] at h4
    refine h.2.2 (j, w) (List.mem_cons_of_mem _ (List.mem_filter.mpr ⟨h4, ?_⟩))
    have h5 : (j == i) = false := by simp [hj]
    by_cases h6 : j + 1 = i
    · subst h6
      have hk : (match L[j]? with
        | some w => w.category == 1
        | none => true) = true := hk
      rw [h2] at hk
      have h7 : w.category = 1 := by simpa using hk
      simp [h7]
    · simp [hj, h6]
theorem lz_args : ∀ (vs : List Value) (j n : Nat) (q : Nat × Value), (∀ v ∈ vs, v.category = 1) → q ∈ lz j (vs ++ List.replicate n lj) → q ∈ lv_args j vs
  | [], j, n, q, _, h => by
    obtain ⟨i, h1, h2, h3⟩ := lz_inv _ _ _ h
    rw [List.nil_append, List.getElem?_replicate] at h2
    split at h2
    · exact absurd (Option.some.inj h2).symm (h3 0)
    · cases h2
  | v :: vs, j, n, q, hv, h => by
    have hc := hv v List.mem_cons_self
    have hz : lv_args j (v :: vs) = (j, v) :: lv_args (j + 1) vs := by
      show (j, v) :: lv_args (if v.category = 2 then j + 2 else j + 1) vs = _
      rw [if_neg (by omega)]
    rw [hz]
    by_cases hw : ∃ x, v = .retAddr x
    · obtain ⟨x, rfl⟩ := hw
      exact List.mem_cons_of_mem _ (lz_args vs (j + 1) n q (fun w hw => hv w (List.mem_cons_of_mem _ hw)) h)
    · have hz : lz j (v :: vs ++ List.replicate n lj) = (j, v) :: lz (j + 1) (vs ++ List.replicate n lj) := by
        cases v <;> first | rfl | exact absurd ⟨_, rfl⟩ hw
      rw [hz] at h
      rcases List.mem_cons.mp h with rfl | h
      · exact List.mem_cons_self
      · exact List.mem_cons_of_mem _ (lz_args vs (j + 1) n q (fun w hw => hv w (List.mem_cons_of_mem _ hw)) h)
/-- what a method owes at its end: with a value, or with an exception of this class -/
abbrev QQ : Type := (Option Value → Mm → Prop) × (String → Mm → Prop)
def qN (G : GG) (Q : QQ) : Array Value → State → Outcome → State → Prop := fun _ st o t => (∃ (v : Option Value) (M : Mm), o = .returned v ∧ Q.1 v M ∧ Wd G M t t.heap) ∧ va_F (gA G) st t
def qX (G : GG) (Q : QQ) : String → State → State → Prop := fun E st t => (∃ M : Mm, Q.2 E M ∧ Wd G M t t.heap) ∧ va_F (gA G) st t
/-- what stays through a method's walk -/
def Cx (G : GG) (I : MI) (p : Program) (s : State) (m : MethodId) (args : Array Value) (meth : Method) (c : Code) : Prop :=
  p.tables.exec = Jvm.exec ∧ c.code = mB I ∧ meth.sig.returnType = mT I ∧ c.maxLocals = mL I ∧ (∀ w ∈ lwG, w.before args s = true) ∧ s.vm.findClass (mY I).cls = some m.cls ∧ meth.locks = false ∧ meth.name = (mY I).name ∧ c.exceptionTable.toList = tableOf (mH I) ∧ St G s ∧ Ext G s s.heap
def WW (G : GG) (I : MI) (Q : QQ) (pc : Nat) (L : List Value) (st : List Value) (M : Mm) (k n : Nat) : Prop :=
  ∀ (p : Program) (e : Env) (s : State) (m : MethodId) (args : Array Value) (below : List Frame) (meth : Method) (c : Code) (H : Heap) (locs : List Loc) (ls : Array Slot), Cx G I p s m args meth c → Wd G M s H → va_S (gA G) s.heap H locs → lv_has ls (mL I) (lz 0 L) → W p (gl G) e (mR I) s m args below meth c H locs k n (vx_MQ below (qN G Q) (qX G Q) args s (mR I).cells (mR I).slots (gA G)) (F0 m pc ls st)
/-- the words of a method -/
def wsI (I : MI) : List Cond := (if (mH I).isEmpty = true then Cond.code (mY I) (mB I) (mL I) (mT I) else Cond.codeWith (mY I) (mB I) (mL I) (mT I) (mH I)) :: lwG
/-- THE CONTRACT of a method, at these arguments and this memory -/
def KK (G : GG) (I : MI) (as : List Value) (M : Mm) (Q : QQ) : Prop :=
  vx_Met (gl G) (mY I) (wsI I) (mR I) (va_Pc as (fun U => Wd G M U U.heap ∧ St G U)) (qN G Q) (qX G Q) (mR I).cells (mR I).slots (gA G)
theorem blindPc {G : GG} {as : List Value} {M : Mm} : FrameBlind (va_Pc as (fun U => Wd G M U U.heap ∧ St G U)) := by
  intro a U g mk h
  obtain ⟨h1, h2, h3⟩ := h
  exact ⟨h1, Wd.moved (u := U) (U := U.calling g mk a) (Vm.Alike.refl U.vm) h2, St.warm (s := U) (U := U.calling g mk a) (State.WarmedH.refl U) h3⟩
theorem sl_len : ∀ (as : List Value), (∀ v ∈ as, v.category = 1) → (lg_sl as).length = as.length
  | [], _ => rfl
  | v :: vs, hc => by
    have h1 := hc v List.mem_cons_self
    have h2 := sl_len vs (fun w hw => hc w (List.mem_cons_of_mem _ hw))
    show ((if v.category = 2 then [Slot.val v, Slot.second] else [Slot.val v]) ++ lg_sl vs).length = _
    rw [if_neg (by omega)]
    simp [h2]
theorem KK.ofW {G : GG} {I : MI} {as : List Value} {M : Mm} {Q : QQ} (hy : plainName (mY I).cls = true) (hc : ∀ v ∈ as, v.category = 1) (hn : as.length ≤ mL I) (hh : (mH I).isEmpty = true) (h : WW G I Q 0 (as ++ List.replicate (mL I - as.length) lj) [] M 0 0) : KK G I as M Q := by
  unfold KK
  refine vx_ofW (cc := mB I) (maxL := mL I) (ret := mT I) hy (ws' := lwG) (by unfold wsI; rw [if_pos hh]) ?_
  intro p e s m args below meth c s₁ B hml ht hv
  obtain ⟨rfl, hW, hS⟩ := hv
  have hts := atoms_spec (ws := wsI I) B.pre
  have hsl := sl_len as hc
  have hl := lv_entry as (n := mL I) (by rw [hsl]; exact hn)
  rw [lg_entry_eq]
  have htb : c.exceptionTable.toList = tableOf (mH I) := by
    rw [List.isEmpty_iff.mp hh]
    exact List.eq_nil_iff_forall_not_mem.mpr fun x hx => ht x hx
  exact h p e s m _ below meth c s.heap [] _ ⟨B.exec, B.bytes, B.returns, hml, fun w hw => hts w (List.mem_cons_of_mem _ hw), findClass_of_methodNamed B.named, B.notSynchronized, (name_of_methodNamed B.named B.method).1, htb, hS, hW.2.2⟩ hW va_S.rf ⟨hl.1, hl.2.1, fun q hq => hl.2.2 q (lz_args as 0 _ q hc hq)⟩
theorem KK.ofWH {G : GG} {I : MI} {as : List Value} {M : Mm} {Q : QQ} (hy : plainName (mY I).cls = true) (hc : ∀ v ∈ as, v.category = 1) (hn : as.length ≤ mL I) (hh : (mH I).isEmpty = false) (h : WW G I Q 0 (as ++ List.replicate (mL I - as.length) lj) [] M 0 0) : KK G I as M Q := by
  unfold KK
  refine vx_ofWH (cc := mB I) (maxL := mL I) (ret := mT I) (hh := mH I) hy (ws' := lwG) (by unfold wsI; rw [if_neg (by rw [hh]; decide)]) ?_
  intro p e s m args below meth c s₁ B hml hv
  obtain ⟨rfl, hW, hS⟩ := hv
  have hts := atoms_spec (ws := wsI I) B.pre
  have hsl := sl_len as hc
  have hl := lv_entry as (n := mL I) (by rw [hsl]; exact hn)
  rw [lg_entry_eq]
  have h9 : (Cond.codeWith (mY I) (mB I) (mL I) (mT I) (mH I)).before as.toArray s = true := hts _ (by unfold wsI; rw [if_neg (by rw [hh]; decide)]; exact List.mem_cons_self)
  exact h p e s m _ below meth c s.heap [] _ ⟨B.exec, B.bytes, B.returns, hml, fun w hw => hts w (List.mem_cons_of_mem _ hw), findClass_of_methodNamed B.named, B.notSynchronized, (name_of_methodNamed B.named B.method).1, vx_table (x := mY I) B h9, hS, hW.2.2⟩ hW va_S.rf ⟨hl.1, hl.2.1, fun q hq => hl.2.2 q (lz_args as 0 _ q hc hq)⟩
theorem KK.mono {G : GG} {I : MI} {as : List Value} {M : Mm} {Q Q' : QQ} (h : KK G I as M Q) (h1 : ∀ v M', Q.1 v M' → Q'.1 v M') (h2 : ∀ E M', Q.2 E M' → Q'.2 E M') : KK G I as M Q' := by
  unfold KK at h ⊢
  unfold vx_Met at h ⊢
  refine Jvm.Free.MetFree.mono h (fun _ _ h => h) (fun _ _ _ _ _ h => h) (fun a s o t _ hq => ?_)
  rcases hq with ⟨⟨⟨v, M', e1, e2, e3⟩, hF⟩, hE⟩ | ⟨q, e1, E, ce, L, ⟨⟨M', e2, e3⟩, hF⟩, r⟩
  · exact Or.inl ⟨⟨⟨v, M', e1, h1 _ _ e2, e3⟩, hF⟩, hE⟩
  · exact Or.inr ⟨q, e1, E, ce, L, ⟨⟨M', h2 _ _ e2, e3⟩, hF⟩, r⟩
/-- a contract that throws nothing, in the kit's plain form -/
theorem KK.met {G : GG} {I : MI} {as : List Value} {M : Mm} {Q : QQ} (h : KK G I as M Q) (hx : ∀ E M', ¬ Q.2 E M') : Met (gl G) (mY I) (wsI I) (mR I) (va_Pc as (fun U => Wd G M U U.heap ∧ St G U)) (qN G Q) (mR I).cells (mR I).slots (gA G) := by
  unfold KK at h
  unfold vx_Met at h
  unfold Met
  refine Jvm.Free.MetFree.mono h (fun _ _ h => h) (fun _ _ _ _ _ h => h) (fun a s o t _ hq => ?_)
  rcases hq with h | ⟨q, e1, E, ce, L, ⟨⟨M', e2, e3⟩, hF⟩, r⟩
  · exact h
  · exact absurd e2 (hx _ _)
end
section
/-! ROWS OF WW, an instruction each -/
section ROWS
variable {G : GG} {I : MI} {Q : QQ} {pc : Nat} {L st : List Value} {M : Mm} {k n : Nat}
theorem r_iconst {i : Int} {v : Int32} (hd : decode (mB I) pc = .ok (.iconst i, 1)) (hv : Int32.ofInt i = v) (h : WW G I Q (pc + 1) L (.int v :: st) M k n) : WW G I Q pc L (st) M k n := by
  intro p e s m args below meth c H locs ls C Y S V
  exact lv_iconst C.1 C.2.1 hd hv (h p e s m args below meth c H locs ls C Y S V)
theorem r_bipush {i : Int} {v : Int32} (hd : decode (mB I) pc = .ok (.bipush i, 2)) (hv : (Int8.ofInt i).toInt32 = v) (h : WW G I Q (pc + 2) L (.int v :: st) M k n) : WW G I Q pc L (st) M k n := by
  intro p e s m args below meth c H locs ls C Y S V
  exact lv_bipush C.1 C.2.1 hd hv (h p e s m args below meth c H locs ls C Y S V)
theorem r_sipush {i : Int} {v : Int32} (hd : decode (mB I) pc = .ok (.sipush i, 3)) (hv : (Int16.ofInt i).toInt32 = v) (h : WW G I Q (pc + 3) L (.int v :: st) M k n) : WW G I Q pc L (st) M k n := by
  intro p e s m args below meth c H locs ls C Y S V
  exact lv_sipush C.1 C.2.1 hd hv (h p e s m args below meth c H locs ls C Y S V)
theorem r_lconst {i : Fin 2} {v : Int64} (hd : decode (mB I) pc = .ok (.lconst i, 1)) (hv : Int64.ofNat (i : Nat) = v) (h : WW G I Q (pc + 1) L (.long v :: st) M k n) : WW G I Q pc L (st) M k n := by
  intro p e s m args below meth c H locs ls C Y S V
  exact lv_lconst C.1 C.2.1 hd hv (h p e s m args below meth c H locs ls C Y S V)
theorem r_null (hd : decode (mB I) pc = .ok (.aconst_null, 1)) (h : WW G I Q (pc + 1) L (.null :: st) M k n) : WW G I Q pc L (st) M k n := by
  intro p e s m args below meth c H locs ls C Y S V
  exact lv_null C.1 C.2.1 hd  (h p e s m args below meth c H locs ls C Y S V)
theorem r_dconst0 (hd : decode (mB I) pc = .ok (.dconst 0, 1)) (h : WW G I Q (pc + 1) L (.double FP.dconst0 :: st) M k n) : WW G I Q pc L (st) M k n := by
  intro p e s m args below meth c H locs ls C Y S V
  exact lv_dconst0 C.1 C.2.1 hd  (h p e s m args below meth c H locs ls C Y S V)
theorem r_fconst0 (hd : decode (mB I) pc = .ok (.fconst 0, 1)) (h : WW G I Q (pc + 1) L (.float FP.fconst0 :: st) M k n) : WW G I Q pc L (st) M k n := by
  intro p e s m args below meth c H locs ls C Y S V
  exact lv_fconst0 C.1 C.2.1 hd  (h p e s m args below meth c H locs ls C Y S V)
theorem r_iload_n {i : Fin 4} {x : Int32} (hd : decode (mB I) pc = .ok (.iload_n i, 1)) (hl : L[(i : Nat)]? = some (.int x)) (h : WW G I Q (pc + 1) L (.int x :: st) M k n) : WW G I Q pc L (st) M k n := by
  intro p e s m args below meth c H locs ls C Y S V
  exact lv_iload_n C.1 C.2.1 hd rfl (lz_at V hl (fun _ h => by cases h)) (h p e s m args below meth c H locs ls C Y S V)
theorem r_iload {i : Nat} {x : Int32} (hd : decode (mB I) pc = .ok (.iload i, 2)) (hl : L[i]? = some (.int x)) (h : WW G I Q (pc + 2) L (.int x :: st) M k n) : WW G I Q pc L (st) M k n := by
  intro p e s m args below meth c H locs ls C Y S V
  exact lv_iload C.1 C.2.1 hd (lz_at V hl (fun _ h => by cases h)) (h p e s m args below meth c H locs ls C Y S V)
theorem r_aload_n {i : Fin 4} {x : Nat} (hd : decode (mB I) pc = .ok (.aload_n i, 1)) (hl : L[(i : Nat)]? = some (.ref x)) (h : WW G I Q (pc + 1) L (.ref x :: st) M k n) : WW G I Q pc L (st) M k n := by
  intro p e s m args below meth c H locs ls C Y S V
  exact lv_aload_n C.1 C.2.1 hd rfl (lz_at V hl (fun _ h => by cases h)) (h p e s m args below meth c H locs ls C Y S V)
theorem r_aload {i : Nat} {x : Nat} (hd : decode (mB I) pc = .ok (.aload i, 2)) (hl : L[i]? = some (.ref x)) (h : WW G I Q (pc + 2) L (.ref x :: st) M k n) : WW G I Q pc L (st) M k n := by
  intro p e s m args below meth c H locs ls C Y S V
  exact lv_aload C.1 C.2.1 hd (lz_at V hl (fun _ h => by cases h)) (h p e s m args below meth c H locs ls C Y S V)
theorem r_dload_n {i : Fin 4} {x : UInt64} (hd : decode (mB I) pc = .ok (.dload_n i, 1)) (hl : L[(i : Nat)]? = some (.double x)) (h : WW G I Q (pc + 1) L (.double x :: st) M k n) : WW G I Q pc L (st) M k n := by
  intro p e s m args below meth c H locs ls C Y S V
  exact lv_dload_n C.1 C.2.1 hd rfl (lz_at V hl (fun _ h => by cases h)) (h p e s m args below meth c H locs ls C Y S V)
theorem r_dload {i : Nat} {x : UInt64} (hd : decode (mB I) pc = .ok (.dload i, 2)) (hl : L[i]? = some (.double x)) (h : WW G I Q (pc + 2) L (.double x :: st) M k n) : WW G I Q pc L (st) M k n := by
  intro p e s m args below meth c H locs ls C Y S V
  exact lv_dload C.1 C.2.1 hd (lz_at V hl (fun _ h => by cases h)) (h p e s m args below meth c H locs ls C Y S V)
theorem r_fload_n {i : Fin 4} {x : UInt32} (hd : decode (mB I) pc = .ok (.fload_n i, 1)) (hl : L[(i : Nat)]? = some (.float x)) (h : WW G I Q (pc + 1) L (.float x :: st) M k n) : WW G I Q pc L (st) M k n := by
  intro p e s m args below meth c H locs ls C Y S V
  exact lv_fload_n C.1 C.2.1 hd rfl (lz_at V hl (fun _ h => by cases h)) (h p e s m args below meth c H locs ls C Y S V)
theorem r_fload {i : Nat} {x : UInt32} (hd : decode (mB I) pc = .ok (.fload i, 2)) (hl : L[i]? = some (.float x)) (h : WW G I Q (pc + 2) L (.float x :: st) M k n) : WW G I Q pc L (st) M k n := by
  intro p e s m args below meth c H locs ls C Y S V
  exact lv_fload C.1 C.2.1 hd (lz_at V hl (fun _ h => by cases h)) (h p e s m args below meth c H locs ls C Y S V)
theorem r_aload_nN {i : Fin 4} (hd : decode (mB I) pc = .ok (.aload_n i, 1)) (hl : L[(i : Nat)]? = some .null) (h : WW G I Q (pc + 1) L (.null :: st) M k n) : WW G I Q pc L (st) M k n := by
  intro p e s m args below meth c H locs ls C Y S V
  exact lv_aload_nN C.1 C.2.1 hd rfl (lz_at V hl (fun _ h => by cases h)) (h p e s m args below meth c H locs ls C Y S V)
theorem r_aloadN {i : Nat} (hd : decode (mB I) pc = .ok (.aload i, 2)) (hl : L[i]? = some .null) (h : WW G I Q (pc + 2) L (.null :: st) M k n) : WW G I Q pc L (st) M k n := by
  intro p e s m args below meth c H locs ls C Y S V
  exact lv_aloadN C.1 C.2.1 hd (lz_at V hl (fun _ h => by cases h)) (h p e s m args below meth c H locs ls C Y S V)
theorem r_istore_n {i : Fin 4} {x : Int32} (hd : decode (mB I) pc = .ok (.istore_n i, 1)) (hi : (i : Nat) < mL I) (ho : okc L (i : Nat) = true) (h : WW G I Q (pc + 1) (L.set (i : Nat) (.int x)) st M k n) : WW G I Q pc L (.int x :: st) M k n := by
  intro p e s m args below meth c H locs ls C Y S V
  exact lv_istore_n C.1 C.2.1 hd rfl V hi rfl (fun ls' hl' => h p e s m args below meth c H locs ls' C Y S (lz_st ho hl'))
theorem r_istore {i : Nat} {x : Int32} (hd : decode (mB I) pc = .ok (.istore i, 2)) (hi : i < mL I) (ho : okc L i = true) (h : WW G I Q (pc + 2) (L.set i (.int x)) st M k n) : WW G I Q pc L (.int x :: st) M k n := by
  intro p e s m args below meth c H locs ls C Y S V
  exact lv_istore C.1 C.2.1 hd V hi rfl (fun ls' hl' => h p e s m args below meth c H locs ls' C Y S (lz_st ho hl'))
theorem r_astore_n {i : Fin 4} {x : Nat} (hd : decode (mB I) pc = .ok (.astore_n i, 1)) (hi : (i : Nat) < mL I) (ho : okc L (i : Nat) = true) (h : WW G I Q (pc + 1) (L.set (i : Nat) (.ref x)) st M k n) : WW G I Q pc L (.ref x :: st) M k n := by
  intro p e s m args below meth c H locs ls C Y S V
  exact lv_astore_n C.1 C.2.1 hd rfl V hi rfl (fun ls' hl' => h p e s m args below meth c H locs ls' C Y S (lz_st ho hl'))
theorem r_astore {i : Nat} {x : Nat} (hd : decode (mB I) pc = .ok (.astore i, 2)) (hi : i < mL I) (ho : okc L i = true) (h : WW G I Q (pc + 2) (L.set i (.ref x)) st M k n) : WW G I Q pc L (.ref x :: st) M k n := by
  intro p e s m args below meth c H locs ls C Y S V
  exact lv_astore C.1 C.2.1 hd V hi rfl (fun ls' hl' => h p e s m args below meth c H locs ls' C Y S (lz_st ho hl'))
theorem r_astore_nN {i : Fin 4} (hd : decode (mB I) pc = .ok (.astore_n i, 1)) (hi : (i : Nat) < mL I) (ho : okc L (i : Nat) = true) (h : WW G I Q (pc + 1) (L.set (i : Nat) (.null)) st M k n) : WW G I Q pc L (.null :: st) M k n := by
  intro p e s m args below meth c H locs ls C Y S V
  exact lv_astore_nN C.1 C.2.1 hd rfl V hi rfl (fun ls' hl' => h p e s m args below meth c H locs ls' C Y S (lz_st ho hl'))
theorem r_astoreN {i : Nat} (hd : decode (mB I) pc = .ok (.astore i, 2)) (hi : i < mL I) (ho : okc L i = true) (h : WW G I Q (pc + 2) (L.set i (.null)) st M k n) : WW G I Q pc L (.null :: st) M k n := by
  intro p e s m args below meth c H locs ls C Y S V
  exact lv_astoreN C.1 C.2.1 hd V hi rfl (fun ls' hl' => h p e s m args below meth c H locs ls' C Y S (lz_st ho hl'))
theorem r_fstore_n {i : Fin 4} {x : UInt32} (hd : decode (mB I) pc = .ok (.fstore_n i, 1)) (hi : (i : Nat) < mL I) (ho : okc L (i : Nat) = true) (h : WW G I Q (pc + 1) (L.set (i : Nat) (.float x)) st M k n) : WW G I Q pc L (.float x :: st) M k n := by
  intro p e s m args below meth c H locs ls C Y S V
  exact lv_fstore_n C.1 C.2.1 hd rfl V hi rfl (fun ls' hl' => h p e s m args below meth c H locs ls' C Y S (lz_st ho hl'))
theorem r_fstore {i : Nat} {x : UInt32} (hd : decode (mB I) pc = .ok (.fstore i, 2)) (hi : i < mL I) (ho : okc L i = true) (h : WW G I Q (pc + 2) (L.set i (.float x)) st M k n) : WW G I Q pc L (.float x :: st) M k n := by
  intro p e s m args below meth c H locs ls C Y S V
  exact lv_fstore C.1 C.2.1 hd V hi rfl (fun ls' hl' => h p e s m args below meth c H locs ls' C Y S (lz_st ho hl'))
theorem r_iinc {i : Nat} {d : Int} {x v : Int32} (hd : decode (mB I) pc = .ok (.iinc i d, 3)) (hi : i < mL I) (hl : L[i]? = some (.int x)) (hv : x + Int32.ofInt d = v) (ho : okc L i = true) (h : WW G I Q (pc + 3) (L.set i (.int v)) st M k n) : WW G I Q pc L st M k n := by
  intro p e s m args below meth c H locs ls C Y S V
  have hm := lz_mem L 0 i _ hl (fun _ h => by cases h)
  rw [Nat.zero_add] at hm
  obtain ⟨j, hj⟩ := List.getElem?_of_mem hm
  exact lv_iinc C.1 C.2.1 hd V hj hv hi rfl (fun ls' hl' => h p e s m args below meth c H locs ls' C Y S (lz_st ho hl'))
theorem r_iadd {x y : Int32} (hd : decode (mB I) pc = .ok (.iadd, 1)) (h : WW G I Q (pc + 1) L (.int (x + y) :: st) M k n) : WW G I Q pc L (.int y :: .int x :: st) M k n := by
  intro p e s m args below meth c H locs ls C Y S V
  exact lv_iadd C.1 C.2.1 hd  (h p e s m args below meth c H locs ls C Y S V)
theorem r_isub {x y : Int32} (hd : decode (mB I) pc = .ok (.isub, 1)) (h : WW G I Q (pc + 1) L (.int (x - y) :: st) M k n) : WW G I Q pc L (.int y :: .int x :: st) M k n := by
  intro p e s m args below meth c H locs ls C Y S V
  exact lv_isub C.1 C.2.1 hd  (h p e s m args below meth c H locs ls C Y S V)
theorem r_imul {x y : Int32} (hd : decode (mB I) pc = .ok (.imul, 1)) (h : WW G I Q (pc + 1) L (.int (x * y) :: st) M k n) : WW G I Q pc L (.int y :: .int x :: st) M k n := by
  intro p e s m args below meth c H locs ls C Y S V
  exact lv_imul C.1 C.2.1 hd  (h p e s m args below meth c H locs ls C Y S V)
theorem r_iand {x y : Int32} (hd : decode (mB I) pc = .ok (.iand, 1)) (h : WW G I Q (pc + 1) L (.int (x &&& y) :: st) M k n) : WW G I Q pc L (.int y :: .int x :: st) M k n := by
  intro p e s m args below meth c H locs ls C Y S V
  exact lv_iand C.1 C.2.1 hd  (h p e s m args below meth c H locs ls C Y S V)
theorem r_ior {x y : Int32} (hd : decode (mB I) pc = .ok (.ior, 1)) (h : WW G I Q (pc + 1) L (.int (x ||| y) :: st) M k n) : WW G I Q pc L (.int y :: .int x :: st) M k n := by
  intro p e s m args below meth c H locs ls C Y S V
  exact lv_ior C.1 C.2.1 hd  (h p e s m args below meth c H locs ls C Y S V)
theorem r_ixor {x y : Int32} (hd : decode (mB I) pc = .ok (.ixor, 1)) (h : WW G I Q (pc + 1) L (.int (x ^^^ y) :: st) M k n) : WW G I Q pc L (.int y :: .int x :: st) M k n := by
  intro p e s m args below meth c H locs ls C Y S V
  exact lv_ixor C.1 C.2.1 hd  (h p e s m args below meth c H locs ls C Y S V)
theorem r_ishl {x y : Int32} (hd : decode (mB I) pc = .ok (.ishl, 1)) (h : WW G I Q (pc + 1) L (.int (x <<< (y &&& 31)) :: st) M k n) : WW G I Q pc L (.int y :: .int x :: st) M k n := by
  intro p e s m args below meth c H locs ls C Y S V
  exact lv_ishl C.1 C.2.1 hd  (h p e s m args below meth c H locs ls C Y S V)
theorem r_ishr {x y : Int32} (hd : decode (mB I) pc = .ok (.ishr, 1)) (h : WW G I Q (pc + 1) L (.int (x >>> (y &&& 31)) :: st) M k n) : WW G I Q pc L (.int y :: .int x :: st) M k n := by
  intro p e s m args below meth c H locs ls C Y S V
  exact lv_ishr C.1 C.2.1 hd  (h p e s m args below meth c H locs ls C Y S V)
theorem r_idiv {x y : Int32} (hd : decode (mB I) pc = .ok (.idiv, 1)) (hne : ¬ y = 0) (h : WW G I Q (pc + 1) L (.int (x / y) :: st) M k n) : WW G I Q pc L (.int y :: .int x :: st) M k n := by
  intro p e s m args below meth c H locs ls C Y S V
  exact lv_idiv C.1 C.2.1 hd hne (h p e s m args below meth c H locs ls C Y S V)
theorem r_irem {x y : Int32} (hd : decode (mB I) pc = .ok (.irem, 1)) (hne : ¬ y = 0) (h : WW G I Q (pc + 1) L (.int (x - x / y * y) :: st) M k n) : WW G I Q pc L (.int y :: .int x :: st) M k n := by
  intro p e s m args below meth c H locs ls C Y S V
  exact lv_irem C.1 C.2.1 hd hne (h p e s m args below meth c H locs ls C Y S V)
theorem r_ineg {x : Int32} (hd : decode (mB I) pc = .ok (.ineg, 1)) (h : WW G I Q (pc + 1) L (.int (-x) :: st) M k n) : WW G I Q pc L (.int x :: st) M k n := by
  intro p e s m args below meth c H locs ls C Y S V
  exact lv_ineg C.1 C.2.1 hd  (h p e s m args below meth c H locs ls C Y S V)
theorem r_i2l {x : Int32} (hd : decode (mB I) pc = .ok (.i2l, 1)) (h : WW G I Q (pc + 1) L (.long x.toInt64 :: st) M k n) : WW G I Q pc L (.int x :: st) M k n := by
  intro p e s m args below meth c H locs ls C Y S V
  exact lv_i2l C.1 C.2.1 hd rfl (h p e s m args below meth c H locs ls C Y S V)
theorem r_i2c {x : Int32} (hd : decode (mB I) pc = .ok (.i2c, 1)) (h : WW G I Q (pc + 1) L (.int (x.toUInt32 % 65536).toInt32 :: st) M k n) : WW G I Q pc L (.int x :: st) M k n := by
  intro p e s m args below meth c H locs ls C Y S V
  exact lv_i2c C.1 C.2.1 hd rfl (h p e s m args below meth c H locs ls C Y S V)
theorem r_i2d {x : Int32} (hd : decode (mB I) pc = .ok (.i2d, 1)) (h : WW G I Q (pc + 1) L (.double (FP.i2d x) :: st) M k n) : WW G I Q pc L (.int x :: st) M k n := by
  intro p e s m args below meth c H locs ls C Y S V
  exact lv_i2d C.1 C.2.1 hd  (h p e s m args below meth c H locs ls C Y S V)
theorem r_i2f {x : Int32} (hd : decode (mB I) pc = .ok (.i2f, 1)) (h : WW G I Q (pc + 1) L (.float (FP.i2f x) :: st) M k n) : WW G I Q pc L (.int x :: st) M k n := by
  intro p e s m args below meth c H locs ls C Y S V
  exact lv_i2f C.1 C.2.1 hd  (h p e s m args below meth c H locs ls C Y S V)
theorem r_f2d {x : UInt32} (hd : decode (mB I) pc = .ok (.f2d, 1)) (hne : vf_n64 (FP.f2d x)) (h : WW G I Q (pc + 1) L (.double (FP.f2d x) :: st) M k n) : WW G I Q pc L (.float x :: st) M k n := by
  intro p e s m args below meth c H locs ls C Y S V
  exact lv_f2d C.1 C.2.1 hd hne (h p e s m args below meth c H locs ls C Y S V)
theorem r_ddiv {x y : UInt64} (hd : decode (mB I) pc = .ok (.ddiv, 1)) (hne : vf_n64 (FP.ddiv x y)) (h : WW G I Q (pc + 1) L (.double (FP.ddiv x y) :: st) M k n) : WW G I Q pc L (.double y :: .double x :: st) M k n := by
  intro p e s m args below meth c H locs ls C Y S V
  exact lv_ddiv C.1 C.2.1 hd hne (h p e s m args below meth c H locs ls C Y S V)
theorem r_fdiv {x y : UInt32} (hd : decode (mB I) pc = .ok (.fdiv, 1)) (hne : vf_n32 (FP.fdiv x y)) (h : WW G I Q (pc + 1) L (.float (FP.fdiv x y) :: st) M k n) : WW G I Q pc L (.float y :: .float x :: st) M k n := by
  intro p e s m args below meth c H locs ls C Y S V
  exact lv_fdiv C.1 C.2.1 hd hne (h p e s m args below meth c H locs ls C Y S V)
theorem r_lcmp {x y : Int64} (hd : decode (mB I) pc = .ok (.lcmp, 1)) (h : WW G I Q (pc + 1) L (.int (lg_cmp x y) :: st) M k n) : WW G I Q pc L (.long y :: .long x :: st) M k n := by
  intro p e s m args below meth c H locs ls C Y S V
  exact W.lcmp C.1 C.2.1 hd  (h p e s m args below meth c H locs ls C Y S V)
theorem r_dcmp {x y : UInt64} {op : CmpOp} (hd : decode (mB I) pc = .ok (.dcmp op, 1)) (h : WW G I Q (pc + 1) L (.int (Op.cmpValue (FP.dcmp x y) op) :: st) M k n) : WW G I Q pc L (.double y :: .double x :: st) M k n := by
  intro p e s m args below meth c H locs ls C Y S V
  exact lv_dcmp C.1 C.2.1 hd  (h p e s m args below meth c H locs ls C Y S V)
theorem r_fcmp {x y : UInt32} {op : CmpOp} (hd : decode (mB I) pc = .ok (.fcmp op, 1)) (h : WW G I Q (pc + 1) L (.int (Op.cmpValue (FP.fcmp x y) op) :: st) M k n) : WW G I Q pc L (.float y :: .float x :: st) M k n := by
  intro p e s m args below meth c H locs ls C Y S V
  exact lv_fcmp C.1 C.2.1 hd  (h p e s m args below meth c H locs ls C Y S V)
theorem r_dup {v : Value} (hd : decode (mB I) pc = .ok (.dup, 1)) (hv : v.category = 1) (h : WW G I Q (pc + 1) L (v :: v :: st) M k n) : WW G I Q pc L (v :: st) M k n := by
  intro p e s m args below meth c H locs ls C Y S V
  exact lv_dup C.1 C.2.1 hd hv (h p e s m args below meth c H locs ls C Y S V)
theorem r_pop {v : Value} (hd : decode (mB I) pc = .ok (.pop, 1)) (hv : v.category = 1) (h : WW G I Q (pc + 1) L (st) M k n) : WW G I Q pc L (v :: st) M k n := by
  intro p e s m args below meth c H locs ls C Y S V
  exact lv_pop C.1 C.2.1 hd hv (h p e s m args below meth c H locs ls C Y S V)
theorem r_dup2 {v u : Value} (hd : decode (mB I) pc = .ok (.dup2, 1)) (hv : v.category = 1) (hu : u.category = 1) (h : WW G I Q (pc + 1) L (v :: u :: v :: u :: st) M k n) : WW G I Q pc L (v :: u :: st) M k n := by
  intro p e s m args below meth c H locs ls C Y S V
  exact lv_dup2_11 C.1 C.2.1 hd hv hu (h p e s m args below meth c H locs ls C Y S V)
theorem r_if_eq {x : Int32} {off : Int} {tgt : Nat} (hd : decode (mB I) pc = .ok (.ifCond .eq off, 3)) (ht : (pc : Int) + off = (tgt : Int)) (h1 : x = 0 → WW G I Q tgt L st M k n) (h2 : ¬ (x = 0) → WW G I Q (pc + 3) L st M k n) : WW G I Q pc L (.int x :: st) M k n := by
  intro p e s m args below meth c H locs ls C Y S V
  exact lv_if_eq C.1 C.2.1 hd ht (fun z => h1 z p e s m args below meth c H locs ls C Y S V) (fun z => h2 z p e s m args below meth c H locs ls C Y S V)
theorem r_if_ne {x : Int32} {off : Int} {tgt : Nat} (hd : decode (mB I) pc = .ok (.ifCond .ne off, 3)) (ht : (pc : Int) + off = (tgt : Int)) (h1 : x ≠ 0 → WW G I Q tgt L st M k n) (h2 : ¬ (x ≠ 0) → WW G I Q (pc + 3) L st M k n) : WW G I Q pc L (.int x :: st) M k n := by
  intro p e s m args below meth c H locs ls C Y S V
  exact lv_if_ne C.1 C.2.1 hd ht (fun z => h1 z p e s m args below meth c H locs ls C Y S V) (fun z => h2 (fun y => y z) p e s m args below meth c H locs ls C Y S V)
theorem r_if_lt {x : Int32} {off : Int} {tgt : Nat} (hd : decode (mB I) pc = .ok (.ifCond .lt off, 3)) (ht : (pc : Int) + off = (tgt : Int)) (h1 : x < 0 → WW G I Q tgt L st M k n) (h2 : ¬ (x < 0) → WW G I Q (pc + 3) L st M k n) : WW G I Q pc L (.int x :: st) M k n := by
  intro p e s m args below meth c H locs ls C Y S V
  exact lv_if_lt C.1 C.2.1 hd ht (fun z => h1 z p e s m args below meth c H locs ls C Y S V) (fun z => h2 z p e s m args below meth c H locs ls C Y S V)
theorem r_if_ge {x : Int32} {off : Int} {tgt : Nat} (hd : decode (mB I) pc = .ok (.ifCond .ge off, 3)) (ht : (pc : Int) + off = (tgt : Int)) (h1 : 0 ≤ x → WW G I Q tgt L st M k n) (h2 : ¬ (0 ≤ x) → WW G I Q (pc + 3) L st M k n) : WW G I Q pc L (.int x :: st) M k n := by
  intro p e s m args below meth c H locs ls C Y S V
  exact lv_if_ge C.1 C.2.1 hd ht (fun z => h1 z p e s m args below meth c H locs ls C Y S V) (fun z => h2 z p e s m args below meth c H locs ls C Y S V)
theorem r_if_gt {x : Int32} {off : Int} {tgt : Nat} (hd : decode (mB I) pc = .ok (.ifCond .gt off, 3)) (ht : (pc : Int) + off = (tgt : Int)) (h1 : 0 < x → WW G I Q tgt L st M k n) (h2 : ¬ (0 < x) → WW G I Q (pc + 3) L st M k n) : WW G I Q pc L (.int x :: st) M k n := by
  intro p e s m args below meth c H locs ls C Y S V
  exact lv_if_gt C.1 C.2.1 hd ht (fun z => h1 z p e s m args below meth c H locs ls C Y S V) (fun z => h2 z p e s m args below meth c H locs ls C Y S V)
theorem r_if_le {x : Int32} {off : Int} {tgt : Nat} (hd : decode (mB I) pc = .ok (.ifCond .le off, 3)) (ht : (pc : Int) + off = (tgt : Int)) (h1 : x ≤ 0 → WW G I Q tgt L st M k n) (h2 : ¬ (x ≤ 0) → WW G I Q (pc + 3) L st M k n) : WW G I Q pc L (.int x :: st) M k n := by
  intro p e s m args below meth c H locs ls C Y S V
  exact lv_if_le C.1 C.2.1 hd ht (fun z => h1 z p e s m args below meth c H locs ls C Y S V) (fun z => h2 z p e s m args below meth c H locs ls C Y S V)
theorem r_icmp_eq {x y : Int32} {off : Int} {tgt : Nat} (hd : decode (mB I) pc = .ok (.if_icmp .eq off, 3)) (ht : (pc : Int) + off = (tgt : Int)) (h1 : x = y → WW G I Q tgt L st M k n) (h2 : ¬ (x = y) → WW G I Q (pc + 3) L st M k n) : WW G I Q pc L (.int y :: .int x :: st) M k n := by
  intro p e s m args below meth c H locs ls C Y S V
  exact lv_icmp_eq C.1 C.2.1 hd ht (fun z => h1 z p e s m args below meth c H locs ls C Y S V) (fun z => h2 z p e s m args below meth c H locs ls C Y S V)
theorem r_icmp_ne {x y : Int32} {off : Int} {tgt : Nat} (hd : decode (mB I) pc = .ok (.if_icmp .ne off, 3)) (ht : (pc : Int) + off = (tgt : Int)) (h1 : x ≠ y → WW G I Q tgt L st M k n) (h2 : ¬ (x ≠ y) → WW G I Q (pc + 3) L st M k n) : WW G I Q pc L (.int y :: .int x :: st) M k n := by
  intro p e s m args below meth c H locs ls C Y S V
  exact lv_icmp_ne C.1 C.2.1 hd ht (fun z => h1 z p e s m args below meth c H locs ls C Y S V) (fun z => h2 (fun y => y z) p e s m args below meth c H locs ls C Y S V)
theorem r_icmp_lt {x y : Int32} {off : Int} {tgt : Nat} (hd : decode (mB I) pc = .ok (.if_icmp .lt off, 3)) (ht : (pc : Int) + off = (tgt : Int)) (h1 : x < y → WW G I Q tgt L st M k n) (h2 : ¬ (x < y) → WW G I Q (pc + 3) L st M k n) : WW G I Q pc L (.int y :: .int x :: st) M k n := by
  intro p e s m args below meth c H locs ls C Y S V
  exact lv_icmp_lt C.1 C.2.1 hd ht (fun z => h1 z p e s m args below meth c H locs ls C Y S V) (fun z => h2 z p e s m args below meth c H locs ls C Y S V)
theorem r_icmp_ge {x y : Int32} {off : Int} {tgt : Nat} (hd : decode (mB I) pc = .ok (.if_icmp .ge off, 3)) (ht : (pc : Int) + off = (tgt : Int)) (h1 : y ≤ x → WW G I Q tgt L st M k n) (h2 : ¬ (y ≤ x) → WW G I Q (pc + 3) L st M k n) : WW G I Q pc L (.int y :: .int x :: st) M k n := by
  intro p e s m args below meth c H locs ls C Y S V
  exact lv_icmp_ge C.1 C.2.1 hd ht (fun z => h1 z p e s m args below meth c H locs ls C Y S V) (fun z => h2 z p e s m args below meth c H locs ls C Y S V)
theorem r_icmp_gt {x y : Int32} {off : Int} {tgt : Nat} (hd : decode (mB I) pc = .ok (.if_icmp .gt off, 3)) (ht : (pc : Int) + off = (tgt : Int)) (h1 : y < x → WW G I Q tgt L st M k n) (h2 : ¬ (y < x) → WW G I Q (pc + 3) L st M k n) : WW G I Q pc L (.int y :: .int x :: st) M k n := by
  intro p e s m args below meth c H locs ls C Y S V
  exact lv_icmp_gt C.1 C.2.1 hd ht (fun z => h1 z p e s m args below meth c H locs ls C Y S V) (fun z => h2 z p e s m args below meth c H locs ls C Y S V)
theorem r_icmp_le {x y : Int32} {off : Int} {tgt : Nat} (hd : decode (mB I) pc = .ok (.if_icmp .le off, 3)) (ht : (pc : Int) + off = (tgt : Int)) (h1 : x ≤ y → WW G I Q tgt L st M k n) (h2 : ¬ (x ≤ y) → WW G I Q (pc + 3) L st M k n) : WW G I Q pc L (.int y :: .int x :: st) M k n := by
  intro p e s m args below meth c H locs ls C Y S V
  exact lv_icmp_le C.1 C.2.1 hd ht (fun z => h1 z p e s m args below meth c H locs ls C Y S V) (fun z => h2 z p e s m args below meth c H locs ls C Y S V)
theorem r_goto {off : Int} {tgt : Nat} (hd : decode (mB I) pc = .ok (.goto off, 3)) (ht : (pc : Int) + off = (tgt : Int)) (h : WW G I Q tgt L st M k n) : WW G I Q pc L st M k n := by
  intro p e s m args below meth c H locs ls C Y S V
  exact lv_goto C.1 C.2.1 hd ht (h p e s m args below meth c H locs ls C Y S V)
theorem r_ifnull {x : Nat} {off : Int} (hd : decode (mB I) pc = .ok (.ifnull off, 3)) (h : WW G I Q (pc + 3) L st M k n) : WW G I Q pc L (.ref x :: st) M k n := by
  intro p e s m args below meth c H locs ls C Y S V
  exact lv_ifnull C.1 C.2.1 hd (h p e s m args below meth c H locs ls C Y S V)
theorem r_ifnullN {off : Int} {tgt : Nat} (hd : decode (mB I) pc = .ok (.ifnull off, 3)) (ht : (pc : Int) + off = (tgt : Int)) (h : WW G I Q tgt L st M k n) : WW G I Q pc L (.null :: st) M k n := by
  intro p e s m args below meth c H locs ls C Y S V
  exact lv_ifnullN C.1 C.2.1 hd ht (h p e s m args below meth c H locs ls C Y S V)
theorem r_ifnonnull {x : Nat} {off : Int} {tgt : Nat} (hd : decode (mB I) pc = .ok (.ifnonnull off, 3)) (ht : (pc : Int) + off = (tgt : Int)) (h : WW G I Q tgt L st M k n) : WW G I Q pc L (.ref x :: st) M k n := by
  intro p e s m args below meth c H locs ls C Y S V
  exact lv_ifnonnull C.1 C.2.1 hd ht (h p e s m args below meth c H locs ls C Y S V)
theorem r_ifnonnullN {off : Int} (hd : decode (mB I) pc = .ok (.ifnonnull off, 3)) (h : WW G I Q (pc + 3) L st M k n) : WW G I Q pc L (.null :: st) M k n := by
  intro p e s m args below meth c H locs ls C Y S V
  exact lv_ifnonnullN C.1 C.2.1 hd (h p e s m args below meth c H locs ls C Y S V)
theorem r_acmp_eq {x y : Nat} {off : Int} {tgt : Nat} (hd : decode (mB I) pc = .ok (.if_acmp .eq off, 3)) (ht : (pc : Int) + off = (tgt : Int)) (h1 : x = y → WW G I Q tgt L st M k n) (h2 : ¬ x = y → WW G I Q (pc + 3) L st M k n) : WW G I Q pc L (.ref y :: .ref x :: st) M k n := by
  intro p e s m args below meth c H locs ls C Y S V
  exact lv_acmp_eq (rx := some x) (ry := some y) C.1 C.2.1 hd ht (fun z => h1 (Option.some.inj z) p e s m args below meth c H locs ls C Y S V) (fun z => h2 (fun q => z (congrArg some q)) p e s m args below meth c H locs ls C Y S V)
theorem r_switchIn {d lo hi : Int} {offs : Array Int} {len : Nat} {x : Int32} {off : Int} {tgt : Nat} (hd : decode (mB I) pc = .ok (.tableswitch d lo hi offs, len)) (h1 : ¬ x.toInt < lo) (h2 : ¬ hi < x.toInt) (ho : offs[(x.toInt - lo).toNat]? = some off) (ht : (pc : Int) + off = (tgt : Int)) (h : WW G I Q tgt L st M k n) : WW G I Q pc L (.int x :: st) M k n := by
  intro p e s m args below meth c H locs ls C Y S V
  exact lv_tableIn C.1 C.2.1 hd h1 h2 ho ht (h p e s m args below meth c H locs ls C Y S V)
theorem r_switchOut {d lo hi : Int} {offs : Array Int} {len : Nat} {x : Int32} {tgt : Nat} (hd : decode (mB I) pc = .ok (.tableswitch d lo hi offs, len)) (h1 : x.toInt < lo ∨ hi < x.toInt) (ht : (pc : Int) + d = (tgt : Int)) (h : WW G I Q tgt L st M k n) : WW G I Q pc L (.int x :: st) M k n := by
  intro p e s m args below meth c H locs ls C Y S V
  exact lv_tableOut C.1 C.2.1 hd h1 ht (h p e s m args below meth c H locs ls C Y S V)
/-! fields -/
/-- where a class's pool names a field: the class's own name, place, the object's class, the field's place -/
def FA (own : String) (idx ci j : Nat) : Prop := ∃ (C : String) (T : u_T) (N : Nat) (ref : String), ac_cls[ci]? = some (C, T, N) ∧ j < N ∧ (∀ w ∈ u_ws C T N, w ∈ lwG) ∧ Cond.fieldLink own idx ref (T j).2.1 (T j).2.2.1 ∈ lwG ∧ (ref = (T j).1 ∨ Cond.sameField ref (T j).1 (T j).2.1 (T j).2.2.1 ∈ lwG)
def finF (ci j : Nat) : Bool := match ac_cls[ci]? with
  | some q => (q.2.1 j).2.2.2
  | none => false
theorem FA_same {args : Array Value} {s : State} {a b d ref : String} (hts : ∀ w ∈ lwG, w.before args s = true) (h : ref = a ∨ Cond.sameField ref a b d ∈ lwG) : ∀ x, s.fieldFound? a b d = some x → s.fieldFound? ref b d = some x := by
  rcases h with rfl | h
  · exact fun _ h => h
  · exact fun x ho => u_same (hts _ h) x ho
theorem Pm.one {M : Mm} {H : Heap} (h : Pm G M H) {a : Nat} (ha : kd M a ≠ 0) {e : va_E} (he : ent (gy G) M a = e) : va_P (gD G) ac_cls [(a, e)] H := by
  obtain ⟨hz, L0, hL, hP, hD⟩ := h
  obtain ⟨k0, hk0⟩ := va_pl_get (X := []) (f := ent (gy G) M) (hL a ha)
  intro j q hj
  have hz : j < 1 := (List.getElem?_eq_some_iff.mp hj).1
  rw [show j = 0 by omega] at hj
  cases hj
  rw [← he]
  exact hP k0 _ hk0
/-- the memory behind one write -/
theorem Pm.up {M M' : Mm} {H H1 : Heap} {a : Nat} {e : va_E} (h : Pm G M H) (ha : kd M a ≠ 0) (hz : H1.size = H.size) (hn : nx M' = nx M) (hk : kd M' = kd M) (he : ent (gy G) M' a = e) (ho : ∀ b, b ≠ a → kd M b = kd M' b ∧ ln M b = ln M' b ∧ mi M b = mi M' b ∧ mr M b = mr M' b ∧ mj M b = mj M' b ∧ md M b = md M' b) (hat : va_at (gD G) ac_cls (a, e) H1) (oq : ∀ q, q ≠ a → H1[q]? = H[q]?) : Pm G M' H1 := by
  obtain ⟨hz0, L0, hL, hP, hD⟩ := h
  obtain ⟨k0, hk0⟩ := va_pl_get (X := []) (f := ent (gy G) M) (hL a ha)
  have h1 := va_P.set hP hD hk0 hat oq
  have h2 := va_D.set (e := e) hD hk0
  have h3 := va_pl_set (X := []) (e := e) hD (hL a ha) hk0
  have h4 := va_pl_congr (L := L0) (ent_up he ho)
  have h5 : (va_pl L0 (ent (gy G) M)).set k0 (a, e) = va_pl L0 (ent (gy G) M') := Eq.trans h3 h4
  rw [h5] at h1 h2
  exact ⟨hz.trans (hz0.trans hn.symm), L0, fun b hb => hL b (by rw [← hk]; exact hb), h1, h2⟩
theorem Wd.up {M M' : Mm} {s : State} {H H1 : Heap} {a : Nat} {e : va_E} (h : Wd G M s H) (ha : kd M a ≠ 0) (hz : H1.size = H.size) (hn : nx M' = nx M) (hk : kd M' = kd M) (he : ent (gy G) M' a = e) (ho : ∀ b, b ≠ a → kd M b = kd M' b ∧ ln M b = ln M' b ∧ mi M b = mi M' b ∧ mr M b = mr M' b ∧ mj M b = mj M' b ∧ md M b = md M' b) (hat : va_at (gD G) ac_cls (a, e) H1) (oq : ∀ q, q ≠ a → H1[q]? = H[q]?) : Wd G M' s H1 := by
  have hg := h.1.ge ha
  exact ⟨h.1.up ha hz hn hk he ho hat oq, h.2.1, h.2.2.kept (by rw [hz]; exact Nat.le_refl _) (fun q _ hq => oq q (fun z => hq (by rw [z]; exact hg)))⟩
theorem r_geti {idx ci j a : Nat} (hd : decode (mB I) pc = .ok (.getfield idx, 3)) (hf : FA (mY I).cls idx ci j) (hk : kd M a = ci + 1) (ht : refT (fTy ci j) = false) (h : WW G I Q (pc + 3) L (.int (mi M a j) :: st) M k n) : WW G I Q pc L (.ref a :: st) M k n := by
  intro p e s m args below meth c H locs ls C Y S V
  obtain ⟨Cn, T, N, ref, h1, h2, h3, h4, h5⟩ := hf
  obtain ⟨-, -, hN, hci⟩ := ac_ok h1
  exact va_get (ws := [(a, .inr (ci, flds ci M a))]) C.1 C.2.1 C.2.2.2.2.1 h3 C.2.2.2.2.2.1 Y.2.1 (Y.1.one (by omega) (ent_o hk hci)) 0 rfl h1 j h2 (C.2.2.2.2.1 _ h4) (FA_same C.2.2.2.2.1 h5) (flds_i (hN ▸ h2) ht) hd (h p e s m args below meth c H locs ls C Y S V)
theorem r_getr {idx ci j a : Nat} {b : Option Nat} (hd : decode (mB I) pc = .ok (.getfield idx, 3)) (hf : FA (mY I).cls idx ci j) (hk : kd M a = ci + 1) (ht : refT (fTy ci j) = true) (hb : mr M a j = b) (h : WW G I Q (pc + 3) L (va_rf b :: st) M k n) : WW G I Q pc L (.ref a :: st) M k n := by
  subst hb
  intro p e s m args below meth c H locs ls C Y S V
  obtain ⟨Cn, T, N, ref, h1, h2, h3, h4, h5⟩ := hf
  obtain ⟨-, -, hN, hci⟩ := ac_ok h1
  exact va_get (ws := [(a, .inr (ci, flds ci M a))]) C.1 C.2.1 C.2.2.2.2.1 h3 C.2.2.2.2.2.1 Y.2.1 (Y.1.one (by omega) (ent_o hk hci)) 0 rfl h1 j h2 (C.2.2.2.2.1 _ h4) (FA_same C.2.2.2.2.1 h5) (flds_r (hN ▸ h2) ht) hd (h p e s m args below meth c H locs ls C Y S V)
theorem ww_put {idx ci j a : Nat} {v : Value} {M' : Mm} (hd : decode (mB I) pc = .ok (.putfield idx, 3)) (hf : FA (mY I).cls idx ci j) (hk : kd M a = ci + 1) (hfin : finF ci j = false) (hn : narrow (fTy ci j) v = v) (hft : fits (fTy ci j) v = true) (hl : j < nF ci → (flds ci M a).set j v = flds ci M' a) (e1 : nx M' = nx M) (e2 : kd M' = kd M) (ho : ∀ b, b ≠ a → kd M b = kd M' b ∧ ln M b = ln M' b ∧ mi M b = mi M' b ∧ mr M b = mr M' b ∧ mj M b = mj M' b ∧ md M b = md M' b) (h : WW G I Q (pc + 3) L st M' k n) : WW G I Q pc L (v :: .ref a :: st) M k n := by
  intro p e s m args below meth c H locs ls C Y S V
  obtain ⟨Cn, T, N, ref, h1, h2, h3, h4, h5⟩ := hf
  obtain ⟨hty, hnm, hN, hci⟩ := ac_ok h1
  have hts := C.2.2.2.2.1
  have hown := C.2.2.2.2.2.1
  have hK := Y.2.1
  have hP := Y.1.one (G := G) (by omega) (ent_o (cy := gy G) hk hci)
  have hl2 : j < (flds ci M a).length := by rw [flds_len]; exact hN ▸ h2
  have hf2 : (T j).2.2.2 = false := by
    have h := hfin
    unfold finF at h
    rw [h1] at h
    exact h
  have hap := va_apart (own := (mY I).cls) hts h3 (fTy ci) hty hnm hK h1
  obtain ⟨r, g1, cell, q1, q2, q3, q4⟩ := hP 0 _ rfl
  have hr : r = (Cn, T, N) := Option.some.inj (g1.symm.trans h1)
  subst hr
  obtain ⟨hS, hfc, kC, hkC, hkind⟩ := hK.1 ci _ h1
  obtain ⟨cf, kf, fi, f, hi, hsl⟩ := hS j h2
  have hlay := hts _ (h3 _ (u_in_lay h2))
  unfold u_lay at hlay
  rw [if_neg (by rw [hf2]; decide)] at hlay
  have hst := (u_facts hfc hkC (u_lays hts h3 h2) hi).1
  have h6 := u_store hfc hkC hkind hlay hi (hty j h2) hn hft
  refine W.putK C.1 C.2.1 (f := f) ⟨hown, hts _ h4, ⟨_, _, _, FA_same hts h5 _ hi⟩, hst⟩ (by rw [q2]; exact h6) q1 q3 (by rw [hsl]; exact k2_hasslot (q4 j h2)) rfl rfl hd fun H' x1 x2 x3 => ?_
  rw [hsl] at x1 ⊢
  have hat : va_at (gD G) ac_cls (a, .inr (ci, (flds ci M a).set j v)) H' := ⟨_, h1, t_OB.to (V := updV (vp_V (flds ci M a)) j v) ⟨_, x1, q2, q3, t_set q4 hap h2 v⟩ (fun i _ => vp_updV_set hl2 v i)⟩
  rw [hl (hN ▸ h2)] at hat
  exact h p e s m args below meth c H' _ ls C (Y.up (by omega) x2 e1 e2 (ent_o (by rw [e2]; exact hk) hci) ho hat x3) (S.put x2 x3 (show gA G a from Y.1.ge (a := a) (by omega))) V
theorem r_puti {idx ci j a : Nat} {v : Int32} (hd : decode (mB I) pc = .ok (.putfield idx, 3)) (hf : FA (mY I).cls idx ci j) (hk : kd M a = ci + 1) (ht : refT (fTy ci j) = false) (hfin : finF ci j = false) (hn : narrow (fTy ci j) (.int v) = .int v) (hft : fits (fTy ci j) (.int v) = true) (h : WW G I Q (pc + 3) L st (sI M a j v) k n) : WW G I Q pc L (.int v :: .ref a :: st) M k n :=
  ww_put hd hf hk hfin hn hft (fun hj => flds_si hj ht) rfl rfl up_sI h
theorem r_putr {idx ci j a : Nat} {v : Option Nat} (hd : decode (mB I) pc = .ok (.putfield idx, 3)) (hf : FA (mY I).cls idx ci j) (hk : kd M a = ci + 1) (ht : refT (fTy ci j) = true) (hfin : finF ci j = false) (hn : narrow (fTy ci j) (va_rf v) = va_rf v) (hft : fits (fTy ci j) (va_rf v) = true) (h : WW G I Q (pc + 3) L st (sR M a j v) k n) : WW G I Q pc L (va_rf v :: .ref a :: st) M k n :=
  ww_put hd hf hk hfin hn hft (fun hj => flds_sr hj ht) rfl rfl up_sR h
/-- a final field, in the constructor -/
theorem r_putF {idx ci j a b : Nat} {Cn : String} (hd : decode (mB I) pc = .ok (.putfield idx, 3)) (hf : FA (mY I).cls idx ci j) (hk : kd M a = ci + 1) (ht : refT (fTy ci j) = true) (hfin : finF ci j = true) (hin : (mY I).name = "<init>") (hown2 : (ac_cls[ci]?.map fun q => (q.2.1 j).1) = some (mY I).cls) (hn : narrow (fTy ci j) (.ref b) = .ref b) (hft : fits (fTy ci j) (.ref b) = true) (h : WW G I Q (pc + 3) L st (sR M a j (some b)) k n) : WW G I Q pc L (.ref b :: .ref a :: st) M k n := by
  intro p e s m args below meth c H locs ls C Y S V
  obtain ⟨Cn, T, N, ref, h1, h2, h3, h4, h5⟩ := hf
  obtain ⟨hty, hnm, hN, hci⟩ := ac_ok h1
  have hts := C.2.2.2.2.1
  have hown := C.2.2.2.2.2.1
  have hK := Y.2.1
  have hP := Y.1.one (G := G) (by omega) (ent_o (cy := gy G) hk hci)
  have hl2 : j < (flds ci M a).length := by rw [flds_len]; exact hN ▸ h2
  have hf2 : (T j).2.2.2 = true := by
    have h := hfin
    unfold finF at h
    rw [h1] at h
    exact h
  have hdecl : (T j).1 = (mY I).cls := by
    rw [h1] at hown2
    exact Option.some.inj hown2
  have hap := va_apart (own := (mY I).cls) hts h3 (fTy ci) hty hnm hK h1
  obtain ⟨r, g1, cell, q1, q2, q3, q4⟩ := hP 0 _ rfl
  have hr : r = (Cn, T, N) := Option.some.inj (g1.symm.trans h1)
  subst hr
  obtain ⟨hS, hfc, kC, hkC, hkind⟩ := hK.1 ci _ h1
  obtain ⟨cf, kf, fi, f, hi, hsl⟩ := hS j h2
  have hlay := hts _ (h3 _ (u_in_lay h2))
  unfold u_lay at hlay
  rw [if_pos hf2] at hlay
  have hst := (u_facts hfc hkC (u_lays hts h3 h2) hi).1
  have hcf : m.cls = cf := by
    obtain ⟨_, _, c', _, _, _, -, -, hf', -, -, -, hown2, -⟩ := Cond.laysFinal_spec hlay
    have e1 : c' = cf := by have := hi.symm.trans hf'; simp at this; exact this.1.symm
    rw [hdecl] at hown2
    rw [← e1]; exact Option.some.inj (hown.symm.trans hown2)
  have h6 := u_fits hfc hkC hkind (Or.inr hlay) hi (hty j h2) hn hft
  refine W.putFinK C.1 C.2.1 hown (hts _ h4) (FA_same hts h5 _ hi) hst hcf (C.2.2.2.2.2.2.2.1.trans hin) (by rw [q2]; exact h6) q1 q3 (by rw [hsl]; exact k2_hasslot (q4 j h2)) rfl rfl hd fun H' x1 x2 x3 => ?_
  rw [hsl] at x1 ⊢
  have hat : va_at (gD G) ac_cls (a, .inr (ci, (flds ci M a).set j (va_rf (some b)))) H' := ⟨_, h1, t_OB.to (V := updV (vp_V (flds ci M a)) j (.ref b)) ⟨_, x1, q2, q3, t_set q4 hap h2 _⟩ (fun i _ => vp_updV_set hl2 _ i)⟩
  rw [flds_sr (hN ▸ h2) ht] at hat
  exact h p e s m args below meth c H' _ ls C (Y.up (by omega) x2 rfl rfl (ent_o hk hci) up_sR hat x3) (S.put x2 x3 (show gA G a from Y.1.ge (a := a) (by omega))) V
theorem r_iald {a : Nat} {i : Int32} (hd : decode (mB I) pc = .ok (.iaload, 1)) (hk : kd M a = 20) (hi : vp_in i (ln M a)) (h : WW G I Q (pc + 1) L (.int (mi M a i.toNatClampNeg) :: st) M k n) : WW G I Q pc L (.int i :: .ref a :: st) M k n := by
  intro p e s m args below meth c H locs ls C Y S V
  exact va_iald (ws := [(a, _)]) C.1 C.2.1 Y.2.1 (Y.1.one (by omega) (ent_i hk)) 0 0 rfl rfl hi hd (h p e s m args below meth c H locs ls C Y S V)
theorem r_cald {a : Nat} {i : Int32} (hd : decode (mB I) pc = .ok (.caload, 1)) (hk : kd M a = 21) (hi : vp_in i (ln M a)) (h : WW G I Q (pc + 1) L (.int (mi M a i.toNatClampNeg) :: st) M k n) : WW G I Q pc L (.int i :: .ref a :: st) M k n := by
  intro p e s m args below meth c H locs ls C Y S V
  exact va_cald (ws := [(a, _)]) C.1 C.2.1 Y.2.1 (Y.1.one (by omega) (ent_c hk)) 0 1 rfl rfl hi hd (h p e s m args below meth c H locs ls C Y S V)
theorem r_lald {a : Nat} {i : Int32} (hd : decode (mB I) pc = .ok (.laload, 1)) (hk : kd M a = 22) (hi : vp_in i (ln M a)) (h : WW G I Q (pc + 1) L (.long (mj M a i.toNatClampNeg) :: st) M k n) : WW G I Q pc L (.int i :: .ref a :: st) M k n := by
  intro p e s m args below meth c H locs ls C Y S V
  exact va_lald (ws := [(a, _)]) C.1 C.2.1 Y.2.1 (Y.1.one (by omega) (ent_j hk)) 0 2 rfl rfl hi hd (h p e s m args below meth c H locs ls C Y S V)
theorem r_dald {a : Nat} {i : Int32} (hd : decode (mB I) pc = .ok (.daload, 1)) (hk : kd M a = 23) (hi : vp_in i (ln M a)) (h : WW G I Q (pc + 1) L (.double (md M a i.toNatClampNeg) :: st) M k n) : WW G I Q pc L (.int i :: .ref a :: st) M k n := by
  intro p e s m args below meth c H locs ls C Y S V
  exact va_dald (ws := [(a, _)]) C.1 C.2.1 Y.2.1 (Y.1.one (by omega) (ent_d hk)) 0 3 rfl rfl hi hd (h p e s m args below meth c H locs ls C Y S V)
theorem r_iast {a : Nat} {i : Int32} {x : Int32} (hd : decode (mB I) pc = .ok (.iastore, 1)) (hk : kd M a = 20) (hi : vp_in i (ln M a)) (h : WW G I Q (pc + 1) L st (sI M a i.toNatClampNeg (x)) k n) : WW G I Q pc L (.int x :: .int i :: .ref a :: st) M k n := by
  intro p e s m args below meth c H locs ls C Y S V
  have hP := Y.1.one (G := G) (by omega) (ent_i (cy := gy G) hk) 0 _ rfl
  refine W.iast C.1 C.2.1 hP ((Y.2.1.2 0 _ rfl).1 (ln M a) (fun j => .int (mi M a j))) (fun q => by cases q) (by show ¬ (i < 0 ∨ (arrV _ _ _).slots.size ≤ _); rw [arrV_size]; exact hi) rfl rfl hd fun H1 e1 z oq => ?_
  refine h p e s m args below meth c H1 _ ls C (Y.up (by omega) z rfl rfl (ent_i hk) up_sI ?_ oq) (S.put z oq (show gA G a from Y.1.ge (a := a) (by omega))) V
  show H1[a]? = some (vp_cell _ _)
  rw [e1]
  rw [vp_cell_i, vp_cell_i, arrV_store]
  congr 2
  funext q
  show updV (fun j => Value.int (mi M a j)) i.toNatClampNeg _ q = .int ((mi (sI M a i.toNatClampNeg (x))) a q)
  rw [show mi (sI M a i.toNatClampNeg (x)) a = va_up (mi M a) i.toNatClampNeg (x) from u2_s _ _ _ _]
  by_cases hq : q = i.toNatClampNeg
  · subst hq
    simp [updV, va_up, vp_nar]
    try rfl
  · simp [updV, va_up, hq]
theorem r_cast {a : Nat} {i : Int32} {x : Int32} (hd : decode (mB I) pc = .ok (.castore, 1)) (hk : kd M a = 21) (hi : vp_in i (ln M a)) (h : WW G I Q (pc + 1) L st (sI M a i.toNatClampNeg (vp_nar .char x)) k n) : WW G I Q pc L (.int x :: .int i :: .ref a :: st) M k n := by
  intro p e s m args below meth c H locs ls C Y S V
  have hP := Y.1.one (G := G) (by omega) (ent_c (cy := gy G) hk) 0 _ rfl
  refine W.cast C.1 C.2.1 hP ((Y.2.1.2 1 _ rfl).1 (ln M a) (fun j => .int (mi M a j))) (fun q => by cases q) (by show ¬ (i < 0 ∨ (arrV _ _ _).slots.size ≤ _); rw [arrV_size]; exact hi) rfl rfl hd fun H1 e1 z oq => ?_
  refine h p e s m args below meth c H1 _ ls C (Y.up (by omega) z rfl rfl (ent_c hk) up_sI ?_ oq) (S.put z oq (show gA G a from Y.1.ge (a := a) (by omega))) V
  show H1[a]? = some (vp_cell _ _)
  rw [e1]
  rw [vp_cell_i, vp_cell_i, arrV_store]
  congr 2
  funext q
  show updV (fun j => Value.int (mi M a j)) i.toNatClampNeg _ q = .int ((mi (sI M a i.toNatClampNeg (vp_nar .char x))) a q)
  rw [show mi (sI M a i.toNatClampNeg (vp_nar .char x)) a = va_up (mi M a) i.toNatClampNeg (vp_nar .char x) from u2_s _ _ _ _]
  by_cases hq : q = i.toNatClampNeg
  · subst hq
    simp [updV, va_up, vp_nar]
    try rfl
  · simp [updV, va_up, hq]
theorem r_last {a : Nat} {i : Int32} {x : Int64} (hd : decode (mB I) pc = .ok (.lastore, 1)) (hk : kd M a = 22) (hi : vp_in i (ln M a)) (h : WW G I Q (pc + 1) L st (sJ M a i.toNatClampNeg (x)) k n) : WW G I Q pc L (.long x :: .int i :: .ref a :: st) M k n := by
  intro p e s m args below meth c H locs ls C Y S V
  have hP := Y.1.one (G := G) (by omega) (ent_j (cy := gy G) hk) 0 _ rfl
  refine W.last C.1 C.2.1 hP ((Y.2.1.2 2 _ rfl).1 (ln M a) (fun j => .long (mj M a j))) (fun q => by cases q) (by show ¬ (i < 0 ∨ (arrV _ _ _).slots.size ≤ _); rw [arrV_size]; exact hi) rfl rfl hd fun H1 e1 z oq => ?_
  refine h p e s m args below meth c H1 _ ls C (Y.up (by omega) z rfl rfl (ent_j hk) up_sJ ?_ oq) (S.put z oq (show gA G a from Y.1.ge (a := a) (by omega))) V
  show H1[a]? = some (vp_cell _ _)
  rw [e1]
  rw [vp_cell_l, vp_cell_l, arrV_store]
  congr 2
  funext q
  show updV (fun j => Value.long (mj M a j)) i.toNatClampNeg _ q = .long ((mj (sJ M a i.toNatClampNeg (x))) a q)
  rw [show mj (sJ M a i.toNatClampNeg (x)) a = va_up (mj M a) i.toNatClampNeg (x) from u2_s _ _ _ _]
  by_cases hq : q = i.toNatClampNeg
  · subst hq
    simp [updV, va_up, vp_nar]
    try rfl
  · simp [updV, va_up, hq]
theorem r_dast {a : Nat} {i : Int32} {x : UInt64} (hd : decode (mB I) pc = .ok (.dastore, 1)) (hk : kd M a = 23) (hi : vp_in i (ln M a)) (h : WW G I Q (pc + 1) L st (sD M a i.toNatClampNeg (x)) k n) : WW G I Q pc L (.double x :: .int i :: .ref a :: st) M k n := by
  intro p e s m args below meth c H locs ls C Y S V
  have hP := Y.1.one (G := G) (by omega) (ent_d (cy := gy G) hk) 0 _ rfl
  refine W.dast C.1 C.2.1 hP ((Y.2.1.2 3 _ rfl).1 (ln M a) (fun j => .double (md M a j))) (fun q => by cases q) (by show ¬ (i < 0 ∨ (arrV _ _ _).slots.size ≤ _); rw [arrV_size]; exact hi) rfl rfl hd fun H1 e1 z oq => ?_
  refine h p e s m args below meth c H1 _ ls C (Y.up (by omega) z rfl rfl (ent_d hk) up_sD ?_ oq) (S.put z oq (show gA G a from Y.1.ge (a := a) (by omega))) V
  show H1[a]? = some (vp_cell _ _)
  rw [e1]
  rw [vp_cell_d, vp_cell_d, arrV_store]
  congr 2
  funext q
  show updV (fun j => Value.double (md M a j)) i.toNatClampNeg _ q = .double ((md (sD M a i.toNatClampNeg (x))) a q)
  rw [show md (sD M a i.toNatClampNeg (x)) a = va_up (md M a) i.toNatClampNeg (x) from u2_s _ _ _ _]
  by_cases hq : q = i.toNatClampNeg
  · subst hq
    simp [updV, va_up, vp_nar]
    try rfl
  · simp [updV, va_up, hq]
/-- rows of references: which class -/
def rqT : Nat → String × Nat := fun t => match t with
  | 0 => (RX1, 0)
  | 1 => (RX4, 3)
  | 2 => (RX5, 4)
  | _ => (RX6, 5)
theorem rq_ty (cy : Nat → ClassId) {t : Nat} (h : t < 4) : (ac_tys cy)[4 + t]? = some (cy (4 + t), .object (rqT t).1) := by
  match t, h with
  | 0, _ => rfl
  | 1, _ => rfl
  | 2, _ => rfl
  | 3, _ => rfl
theorem rq_cl {t : Nat} (h : t < 4) : ∃ r : vw_C, ac_cls[(rqT t).2]? = some r ∧ r.1 = (rqT t).1 := by
  match t, h with
  | 0, _ => exact ⟨_, rfl, rfl⟩
  | 1, _ => exact ⟨_, rfl, rfl⟩
  | 2, _ => exact ⟨_, rfl, rfl⟩
  | 3, _ => exact ⟨_, rfl, rfl⟩
theorem r_aald {a t : Nat} {i : Int32} {b : Option Nat} (hd : decode (mB I) pc = .ok (.aaload, 1)) (hk : kd M a = 30 + t) (ht : t < 4) (hi : vp_in i (ln M a)) (hb : mr M a i.toNatClampNeg = b) (h : WW G I Q (pc + 1) L (va_rf b :: st) M k n) : WW G I Q pc L (.int i :: .ref a :: st) M k n := by
  subst hb
  intro p e s m args below meth c H locs ls C Y S V
  exact va_aldq (ws := [(a, _)]) C.1 C.2.1 Y.2.1 (Y.1.one (by omega) (ent_q hk)) 0 (4 + t) rfl (rq_ty _ ht) hi hd (h p e s m args below meth c H locs ls C Y S V)
theorem r_aast {a t v : Nat} {i : Int32} (hd : decode (mB I) pc = .ok (.aastore, 1)) (hk : kd M a = 30 + t) (ht : t < 4) (hi : vp_in i (ln M a)) (hv : kd M v = (rqT t).2 + 1) (h : WW G I Q (pc + 1) L st (sR M a i.toNatClampNeg (some v)) k n) : WW G I Q pc L (.ref v :: .int i :: .ref a :: st) M k n := by
  intro p e s m args below meth c H locs ls C Y S V
  have hP := Y.1.one (G := G) (by omega) (ent_q (cy := gy G) hk) 0 _ rfl
  obtain ⟨r, hc, hrn⟩ := rq_cl ht
  obtain ⟨-, -, -, hci⟩ := ac_ok (C := r.1) (T := r.2.1) (N := r.2.2) hc
  obtain ⟨r', hr', cellV, g1, g2, g3, -⟩ := Y.1.one (G := G) (by omega) (ent_o (cy := gy G) hv hci) 0 _ rfl
  have hK := Y.2.1
  have hlt : i.toNatClampNeg < ln M a := Nat.not_le.mp fun q => hi (Or.inr q)
  have h0 : ¬ i < 0 := fun q => hi (Or.inl q)
  have hcls := (hK.1 _ r hc).2
  obtain ⟨kA, comp, k1, k2, k3, -⟩ := (hK.2 (4 + t) _ (rq_ty _ ht)).2
  rw [← hrn] at k3
  have hcomp : comp = (gD G).1 (rqT t).2 := Option.some.inj (k3.symm.trans hcls.1)
  subst hcomp
  obtain ⟨kC, hkC, -⟩ := hcls.2
  refine W.aast C.1 C.2.1 hP (fun q h => by cases h) (fun h => by cases h) k1 k2 rfl hkC ⟨h0, by show _ < (arrV _ _ _).slots.size; rw [arrV_size]; exact hlt⟩ g1 (fun q h => by rw [g3] at h; cases h) (by rw [g2]; exact hkC) (by rw [g2]; exact va_assign hcls) rfl rfl hd fun H1 e1 z oq => ?_
  refine h p e s m args below meth c H1 _ ls C (Y.up (by omega) z rfl rfl (ent_q hk) up_sR ?_ oq) (S.put z oq (show gA G a from Y.1.ge (a := a) (by omega))) V
  show H1[a]? = some (vp_cell _ _)
  rw [e1]
  rw [vp_cell_q, vp_cell_q, arrV_store]
  congr 2
  funext q
  show updV (fun j => va_rf (mr M a j)) i.toNatClampNeg _ q = va_rf ((mr (sR M a i.toNatClampNeg (some v))) a q)
  rw [show mr (sR M a i.toNatClampNeg (some v)) a = va_up (mr M a) i.toNatClampNeg (some v) from u2_s _ _ _ _]
  by_cases hq : q = i.toNatClampNeg
  · subst hq
    simp [updV, va_up, va_rf]
  · simp [updV, va_up, hq]
/-! the script -/
theorem r_slen (hd : decode (mB I) pc = .ok (.arraylength, 1)) (h : WW G I Q (pc + 1) L (.int (nI (gs G).2.1) :: st) M k n) : WW G I Q pc L (.ref (gs G).1 :: st) M k n := by
  intro p e s m args below meth c H locs ls C Y S V
  have hE := C.2.2.2.2.2.2.2.2.2.2
  exact va_slen C.1 C.2.1 hE.2.2.1 (Nat.lt_of_lt_of_le hE.2.1 hE.1) (Nat.not_le.mpr hE.2.1) S hd (h p e s m args below meth c H locs ls C Y S V)
theorem r_sld {i : Int32} (hd : decode (mB I) pc = .ok (.iaload, 1)) (hi : vp_in i (gs G).2.1) (h : WW G I Q (pc + 1) L (.int ((gs G).2.2 i.toNatClampNeg) :: st) M k n) : WW G I Q pc L (.int i :: .ref (gs G).1 :: st) M k n := by
  intro p e s m args below meth c H locs ls C Y S V
  have hE := C.2.2.2.2.2.2.2.2.2.2
  exact va_sld C.1 C.2.1 hE.2.2.1 (Nat.lt_of_lt_of_le hE.2.1 hE.1) (Nat.not_le.mpr hE.2.1) S hi hd (h p e s m args below meth c H locs ls C Y S V)
end ROWS
end
