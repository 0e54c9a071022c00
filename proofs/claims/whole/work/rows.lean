section
-- ===== PART A: goes FIRST, ahead of the names: the tables' words, and 'selects' of the private methods out of them =====
/-- a private method of a class that the tables say can be made, by its rows of tables_1 -/
def lw_okq (q : MethodName × Nat) : Prop := (q.1.cls ≠ "java/lang/invoke/MethodHandle" ∧ q.1.cls ≠ "java/lang/invoke/VarHandle") ∧ Cond.instantiable q.1.cls q.2 ∈ tables_1 ∧ Cond.privateMethod q.1 ∈ tables_1 ∧ Cond.instanceMethod q.1 ∈ tables_1
theorem lw_p0 : lw_okq (⟨"GunLine$WaterReader", "readClause", "()Z"⟩, 5) := ⟨⟨by decide +kernel, by decide +kernel⟩, List.mem_of_getElem? (i := 78) (by decide +kernel), List.mem_of_getElem? (i := 385) (by decide +kernel), List.mem_of_getElem? (i := 386) (by decide +kernel)⟩
theorem lw_p1 : lw_okq (⟨"GunLine$WaterReader", "readLine", "()Z"⟩, 5) := ⟨⟨by decide +kernel, by decide +kernel⟩, List.mem_of_getElem? (i := 78) (by decide +kernel), List.mem_of_getElem? (i := 402) (by decide +kernel), List.mem_of_getElem? (i := 403) (by decide +kernel)⟩
theorem lw_p2 : lw_okq (⟨"GunLine$WaterReader", "readItems", "(Ljava/lang/String;[I[I[I)Z"⟩, 5) := ⟨⟨by decide +kernel, by decide +kernel⟩, List.mem_of_getElem? (i := 78) (by decide +kernel), List.mem_of_getElem? (i := 413) (by decide +kernel), List.mem_of_getElem? (i := 414) (by decide +kernel)⟩
theorem lw_p3 : lw_okq (⟨"GunLine$WaterReader", "readBoat", "()Z"⟩, 5) := ⟨⟨by decide +kernel, by decide +kernel⟩, List.mem_of_getElem? (i := 78) (by decide +kernel), List.mem_of_getElem? (i := 517) (by decide +kernel), List.mem_of_getElem? (i := 518) (by decide +kernel)⟩
theorem lw_p4 : lw_okq (⟨"GunLine$WaterReader", "fits", "()Z"⟩, 5) := ⟨⟨by decide +kernel, by decide +kernel⟩, List.mem_of_getElem? (i := 78) (by decide +kernel), List.mem_of_getElem? (i := 532) (by decide +kernel), List.mem_of_getElem? (i := 533) (by decide +kernel)⟩
theorem lw_p5 : lw_okq (⟨"GunLine$RuleReader", "readClause", "()Z"⟩, 3) := ⟨⟨by decide +kernel, by decide +kernel⟩, List.mem_of_getElem? (i := 181) (by decide +kernel), List.mem_of_getElem? (i := 545) (by decide +kernel), List.mem_of_getElem? (i := 546) (by decide +kernel)⟩
theorem lw_p6 : lw_okq (⟨"GunLine$RuleReader", "readCondition", "(IZ)Z"⟩, 3) := ⟨⟨by decide +kernel, by decide +kernel⟩, List.mem_of_getElem? (i := 181) (by decide +kernel), List.mem_of_getElem? (i := 551) (by decide +kernel), List.mem_of_getElem? (i := 552) (by decide +kernel)⟩
theorem lw_p7 : lw_okq (⟨"GunLine$RuleReader", "readTruth", "(IZ)Z"⟩, 3) := ⟨⟨by decide +kernel, by decide +kernel⟩, List.mem_of_getElem? (i := 181) (by decide +kernel), List.mem_of_getElem? (i := 555) (by decide +kernel), List.mem_of_getElem? (i := 556) (by decide +kernel)⟩
theorem lw_p8 : lw_okq (⟨"GunLine$RuleReader", "readUnit", "(IZ)Z"⟩, 3) := ⟨⟨by decide +kernel, by decide +kernel⟩, List.mem_of_getElem? (i := 181) (by decide +kernel), List.mem_of_getElem? (i := 559) (by decide +kernel), List.mem_of_getElem? (i := 560) (by decide +kernel)⟩
theorem lw_p9 : lw_okq (⟨"GunLine$RuleReader", "emit", "(I)V"⟩, 3) := ⟨⟨by decide +kernel, by decide +kernel⟩, List.mem_of_getElem? (i := 181) (by decide +kernel), List.mem_of_getElem? (i := 563) (by decide +kernel), List.mem_of_getElem? (i := 564) (by decide +kernel)⟩
theorem lw_p10 : lw_okq (⟨"GunLine$RuleReader", "readSum", "(I)Z"⟩, 3) := ⟨⟨by decide +kernel, by decide +kernel⟩, List.mem_of_getElem? (i := 181) (by decide +kernel), List.mem_of_getElem? (i := 567) (by decide +kernel), List.mem_of_getElem? (i := 568) (by decide +kernel)⟩
theorem lw_p11 : lw_okq (⟨"GunLine$RuleReader", "readTerm", "(I)Z"⟩, 3) := ⟨⟨by decide +kernel, by decide +kernel⟩, List.mem_of_getElem? (i := 181) (by decide +kernel), List.mem_of_getElem? (i := 571) (by decide +kernel), List.mem_of_getElem? (i := 572) (by decide +kernel)⟩
theorem lw_p12 : lw_okq (⟨"GunLine$RuleReader", "readAtom", "(I)Z"⟩, 3) := ⟨⟨by decide +kernel, by decide +kernel⟩, List.mem_of_getElem? (i := 181) (by decide +kernel), List.mem_of_getElem? (i := 575) (by decide +kernel), List.mem_of_getElem? (i := 576) (by decide +kernel)⟩
theorem lw_p13 : lw_okq (⟨"GunLine$RuleReader", "readAnswer", "()Z"⟩, 3) := ⟨⟨by decide +kernel, by decide +kernel⟩, List.mem_of_getElem? (i := 181) (by decide +kernel), List.mem_of_getElem? (i := 585) (by decide +kernel), List.mem_of_getElem? (i := 586) (by decide +kernel)⟩
theorem lw_p14 : lw_okq (⟨"GunLine", "takeWater", "()I"⟩, 18) := ⟨⟨by decide +kernel, by decide +kernel⟩, List.mem_of_getElem? (i := 27) (by decide +kernel), List.mem_of_getElem? (i := 594) (by decide +kernel), List.mem_of_getElem? (i := 595) (by decide +kernel)⟩
theorem lw_p15 : lw_okq (⟨"GunLine", "takeRule", "()I"⟩, 18) := ⟨⟨by decide +kernel, by decide +kernel⟩, List.mem_of_getElem? (i := 27) (by decide +kernel), List.mem_of_getElem? (i := 615) (by decide +kernel), List.mem_of_getElem? (i := 616) (by decide +kernel)⟩
def lw_privs_1 : List (MethodName × Nat) := [(⟨"GunLine$WaterReader", "readClause", "()Z"⟩, 5), (⟨"GunLine$WaterReader", "readLine", "()Z"⟩, 5), (⟨"GunLine$WaterReader", "readItems", "(Ljava/lang/String;[I[I[I)Z"⟩, 5), (⟨"GunLine$WaterReader", "readBoat", "()Z"⟩, 5), (⟨"GunLine$WaterReader", "fits", "()Z"⟩, 5), (⟨"GunLine$RuleReader", "readClause", "()Z"⟩, 3), (⟨"GunLine$RuleReader", "readCondition", "(IZ)Z"⟩, 3), (⟨"GunLine$RuleReader", "readTruth", "(IZ)Z"⟩, 3), (⟨"GunLine$RuleReader", "readUnit", "(IZ)Z"⟩, 3), (⟨"GunLine$RuleReader", "emit", "(I)V"⟩, 3), (⟨"GunLine$RuleReader", "readSum", "(I)Z"⟩, 3), (⟨"GunLine$RuleReader", "readTerm", "(I)Z"⟩, 3), (⟨"GunLine$RuleReader", "readAtom", "(I)Z"⟩, 3), (⟨"GunLine$RuleReader", "readAnswer", "()Z"⟩, 3), (⟨"GunLine", "takeWater", "()I"⟩, 18), (⟨"GunLine", "takeRule", "()I"⟩, 18)]
theorem lw_r1 : ∀ q ∈ lw_privs_1, lw_okq q := List.forall_mem_cons.mpr ⟨lw_p0, List.forall_mem_cons.mpr ⟨lw_p1, List.forall_mem_cons.mpr ⟨lw_p2, List.forall_mem_cons.mpr ⟨lw_p3, List.forall_mem_cons.mpr ⟨lw_p4, List.forall_mem_cons.mpr ⟨lw_p5, List.forall_mem_cons.mpr ⟨lw_p6, List.forall_mem_cons.mpr ⟨lw_p7, List.forall_mem_cons.mpr ⟨lw_p8, List.forall_mem_cons.mpr ⟨lw_p9, List.forall_mem_cons.mpr ⟨lw_p10, List.forall_mem_cons.mpr ⟨lw_p11, List.forall_mem_cons.mpr ⟨lw_p12, List.forall_mem_cons.mpr ⟨lw_p13, List.forall_mem_cons.mpr ⟨lw_p14, List.forall_mem_cons.mpr ⟨lw_p15, fun _ h => absurd h List.not_mem_nil⟩⟩⟩⟩⟩⟩⟩⟩⟩⟩⟩⟩⟩⟩⟩⟩
theorem lw_p16 : lw_okq (⟨"GunLine", "hasWater", "()Z"⟩, 18) := ⟨⟨by decide +kernel, by decide +kernel⟩, List.mem_of_getElem? (i := 27) (by decide +kernel), List.mem_of_getElem? (i := 628) (by decide +kernel), List.mem_of_getElem? (i := 629) (by decide +kernel)⟩
theorem lw_p17 : lw_okq (⟨"GunLine", "isBoat", "(I)Z"⟩, 18) := ⟨⟨by decide +kernel, by decide +kernel⟩, List.mem_of_getElem? (i := 27) (by decide +kernel), List.mem_of_getElem? (i := 636) (by decide +kernel), List.mem_of_getElem? (i := 637) (by decide +kernel)⟩
theorem lw_p18 : lw_okq (⟨"GunLine", "canPass", "(I)Z"⟩, 18) := ⟨⟨by decide +kernel, by decide +kernel⟩, List.mem_of_getElem? (i := 27) (by decide +kernel), List.mem_of_getElem? (i := 673) (by decide +kernel), List.mem_of_getElem? (i := 674) (by decide +kernel)⟩
theorem lw_p19 : lw_okq (⟨"GunLine$Mover", "look", "(LGunLine$Fleet;)V"⟩, 4) := ⟨⟨by decide +kernel, by decide +kernel⟩, List.mem_of_getElem? (i := 203) (by decide +kernel), List.mem_of_getElem? (i := 685) (by decide +kernel), List.mem_of_getElem? (i := 686) (by decide +kernel)⟩
theorem lw_p20 : lw_okq (⟨"GunLine$Fleet", "isBeside", "(II)Z"⟩, 10) := ⟨⟨by decide +kernel, by decide +kernel⟩, List.mem_of_getElem? (i := 97) (by decide +kernel), List.mem_of_getElem? (i := 693) (by decide +kernel), List.mem_of_getElem? (i := 694) (by decide +kernel)⟩
theorem lw_p21 : lw_okq (⟨"GunLine$Mover", "askRules", "(LGunLine$Course;LGunLine$Fleet;I)V"⟩, 4) := ⟨⟨by decide +kernel, by decide +kernel⟩, List.mem_of_getElem? (i := 203) (by decide +kernel), List.mem_of_getElem? (i := 697) (by decide +kernel), List.mem_of_getElem? (i := 698) (by decide +kernel)⟩
theorem lw_p22 : lw_okq (⟨"GunLine$Mover", "moveAll", "(LGunLine$Course;LGunLine$Fleet;)V"⟩, 4) := ⟨⟨by decide +kernel, by decide +kernel⟩, List.mem_of_getElem? (i := 203) (by decide +kernel), List.mem_of_getElem? (i := 745) (by decide +kernel), List.mem_of_getElem? (i := 746) (by decide +kernel)⟩
theorem lw_p23 : lw_okq (⟨"GunLine$Mover", "sail", "(LGunLine$Fleet;I)V"⟩, 4) := ⟨⟨by decide +kernel, by decide +kernel⟩, List.mem_of_getElem? (i := 203) (by decide +kernel), List.mem_of_getElem? (i := 749) (by decide +kernel), List.mem_of_getElem? (i := 750) (by decide +kernel)⟩
theorem lw_p24 : lw_okq (⟨"GunLine$Mover", "drawGusts", "(LGunLine$Fleet;LGunLine$Draws;I)V"⟩, 4) := ⟨⟨by decide +kernel, by decide +kernel⟩, List.mem_of_getElem? (i := 203) (by decide +kernel), List.mem_of_getElem? (i := 775) (by decide +kernel), List.mem_of_getElem? (i := 776) (by decide +kernel)⟩
theorem lw_p25 : lw_okq (⟨"GunLine$Course", "worthOfColumn", "(I)I"⟩, 1) := ⟨⟨by decide +kernel, by decide +kernel⟩, List.mem_of_getElem? (i := 84) (by decide +kernel), List.mem_of_getElem? (i := 815) (by decide +kernel), List.mem_of_getElem? (i := 816) (by decide +kernel)⟩
theorem lw_p26 : lw_okq (⟨"GunLine", "scoreFrom", "(III)I"⟩, 18) := ⟨⟨by decide +kernel, by decide +kernel⟩, List.mem_of_getElem? (i := 27) (by decide +kernel), List.mem_of_getElem? (i := 833) (by decide +kernel), List.mem_of_getElem? (i := 834) (by decide +kernel)⟩
theorem lw_p27 : lw_okq (⟨"GunLine", "boatsIn", "(I)I"⟩, 18) := ⟨⟨by decide +kernel, by decide +kernel⟩, List.mem_of_getElem? (i := 27) (by decide +kernel), List.mem_of_getElem? (i := 865) (by decide +kernel), List.mem_of_getElem? (i := 866) (by decide +kernel)⟩
theorem lw_p28 : lw_okq (⟨"GunLine", "isAmong", "(II)Z"⟩, 18) := ⟨⟨by decide +kernel, by decide +kernel⟩, List.mem_of_getElem? (i := 27) (by decide +kernel), List.mem_of_getElem? (i := 893) (by decide +kernel), List.mem_of_getElem? (i := 894) (by decide +kernel)⟩
theorem lw_p29 : lw_okq (⟨"GunLine$Thirds", "isRest", "(I)Z"⟩, 5) := ⟨⟨by decide +kernel, by decide +kernel⟩, List.mem_of_getElem? (i := 249) (by decide +kernel), List.mem_of_getElem? (i := 910) (by decide +kernel), List.mem_of_getElem? (i := 911) (by decide +kernel)⟩
theorem lw_p30 : lw_okq (⟨"GunLine$Thirds", "spell", "(I)V"⟩, 5) := ⟨⟨by decide +kernel, by decide +kernel⟩, List.mem_of_getElem? (i := 249) (by decide +kernel), List.mem_of_getElem? (i := 914) (by decide +kernel), List.mem_of_getElem? (i := 915) (by decide +kernel)⟩
theorem lw_p31 : lw_okq (⟨"GunLine$Thirds", "digits", "()I"⟩, 5) := ⟨⟨by decide +kernel, by decide +kernel⟩, List.mem_of_getElem? (i := 249) (by decide +kernel), List.mem_of_getElem? (i := 922) (by decide +kernel), List.mem_of_getElem? (i := 923) (by decide +kernel)⟩
def lw_privs_2 : List (MethodName × Nat) := [(⟨"GunLine", "hasWater", "()Z"⟩, 18), (⟨"GunLine", "isBoat", "(I)Z"⟩, 18), (⟨"GunLine", "canPass", "(I)Z"⟩, 18), (⟨"GunLine$Mover", "look", "(LGunLine$Fleet;)V"⟩, 4), (⟨"GunLine$Fleet", "isBeside", "(II)Z"⟩, 10), (⟨"GunLine$Mover", "askRules", "(LGunLine$Course;LGunLine$Fleet;I)V"⟩, 4), (⟨"GunLine$Mover", "moveAll", "(LGunLine$Course;LGunLine$Fleet;)V"⟩, 4), (⟨"GunLine$Mover", "sail", "(LGunLine$Fleet;I)V"⟩, 4), (⟨"GunLine$Mover", "drawGusts", "(LGunLine$Fleet;LGunLine$Draws;I)V"⟩, 4), (⟨"GunLine$Course", "worthOfColumn", "(I)I"⟩, 1), (⟨"GunLine", "scoreFrom", "(III)I"⟩, 18), (⟨"GunLine", "boatsIn", "(I)I"⟩, 18), (⟨"GunLine", "isAmong", "(II)Z"⟩, 18), (⟨"GunLine$Thirds", "isRest", "(I)Z"⟩, 5), (⟨"GunLine$Thirds", "spell", "(I)V"⟩, 5), (⟨"GunLine$Thirds", "digits", "()I"⟩, 5)]
theorem lw_r2 : ∀ q ∈ lw_privs_2, lw_okq q := List.forall_mem_cons.mpr ⟨lw_p16, List.forall_mem_cons.mpr ⟨lw_p17, List.forall_mem_cons.mpr ⟨lw_p18, List.forall_mem_cons.mpr ⟨lw_p19, List.forall_mem_cons.mpr ⟨lw_p20, List.forall_mem_cons.mpr ⟨lw_p21, List.forall_mem_cons.mpr ⟨lw_p22, List.forall_mem_cons.mpr ⟨lw_p23, List.forall_mem_cons.mpr ⟨lw_p24, List.forall_mem_cons.mpr ⟨lw_p25, List.forall_mem_cons.mpr ⟨lw_p26, List.forall_mem_cons.mpr ⟨lw_p27, List.forall_mem_cons.mpr ⟨lw_p28, List.forall_mem_cons.mpr ⟨lw_p29, List.forall_mem_cons.mpr ⟨lw_p30, List.forall_mem_cons.mpr ⟨lw_p31, fun _ h => absurd h List.not_mem_nil⟩⟩⟩⟩⟩⟩⟩⟩⟩⟩⟩⟩⟩⟩⟩⟩
theorem lw_p32 : lw_okq (⟨"GunLine", "duelOf", "(II)I"⟩, 18) := ⟨⟨by decide +kernel, by decide +kernel⟩, List.mem_of_getElem? (i := 27) (by decide +kernel), List.mem_of_getElem? (i := 940) (by decide +kernel), List.mem_of_getElem? (i := 941) (by decide +kernel)⟩
theorem lw_p33 : lw_okq (⟨"GunLine$Fleet", "joinDuel", "(II)V"⟩, 10) := ⟨⟨by decide +kernel, by decide +kernel⟩, List.mem_of_getElem? (i := 97) (by decide +kernel), List.mem_of_getElem? (i := 953) (by decide +kernel), List.mem_of_getElem? (i := 954) (by decide +kernel)⟩
theorem lw_p34 : lw_okq (⟨"GunLine$Fleet", "isRowFull", "(II)Z"⟩, 10) := ⟨⟨by decide +kernel, by decide +kernel⟩, List.mem_of_getElem? (i := 97) (by decide +kernel), List.mem_of_getElem? (i := 1011) (by decide +kernel), List.mem_of_getElem? (i := 1012) (by decide +kernel)⟩
theorem lw_p35 : lw_okq (⟨"java/lang/Throwable", "fillInStackTrace", "(I)Ljava/lang/Throwable;"⟩, 6) := ⟨⟨by decide +kernel, by decide +kernel⟩, List.mem_of_getElem? (i := 1075) (by decide +kernel), List.mem_of_getElem? (i := 1073) (by decide +kernel), List.mem_of_getElem? (i := 1074) (by decide +kernel)⟩
theorem lw_p36 : lw_okq (⟨"GunLineModel", "readWater", "()I"⟩, 45) := ⟨⟨by decide +kernel, by decide +kernel⟩, List.mem_of_getElem? (i := 1101) (by decide +kernel), List.mem_of_getElem? (i := 1263) (by decide +kernel), List.mem_of_getElem? (i := 1264) (by decide +kernel)⟩
theorem lw_p37 : lw_okq (⟨"GunLineModel", "look", "()I"⟩, 45) := ⟨⟨by decide +kernel, by decide +kernel⟩, List.mem_of_getElem? (i := 1101) (by decide +kernel), List.mem_of_getElem? (i := 1267) (by decide +kernel), List.mem_of_getElem? (i := 1268) (by decide +kernel)⟩
theorem lw_p38 : lw_okq (⟨"GunLineModel", "here", "()I"⟩, 45) := ⟨⟨by decide +kernel, by decide +kernel⟩, List.mem_of_getElem? (i := 1101) (by decide +kernel), List.mem_of_getElem? (i := 1271) (by decide +kernel), List.mem_of_getElem? (i := 1272) (by decide +kernel)⟩
theorem lw_p39 : lw_okq (⟨"GunLineModel", "items", "(I[III)V"⟩, 45) := ⟨⟨by decide +kernel, by decide +kernel⟩, List.mem_of_getElem? (i := 1101) (by decide +kernel), List.mem_of_getElem? (i := 1275) (by decide +kernel), List.mem_of_getElem? (i := 1276) (by decide +kernel)⟩
theorem lw_p40 : lw_okq (⟨"GunLineModel", "number", "(II)I"⟩, 45) := ⟨⟨by decide +kernel, by decide +kernel⟩, List.mem_of_getElem? (i := 1101) (by decide +kernel), List.mem_of_getElem? (i := 1294) (by decide +kernel), List.mem_of_getElem? (i := 1295) (by decide +kernel)⟩
theorem lw_p41 : lw_okq (⟨"GunLineModel", "bad", "()V"⟩, 45) := ⟨⟨by decide +kernel, by decide +kernel⟩, List.mem_of_getElem? (i := 1101) (by decide +kernel), List.mem_of_getElem? (i := 1301) (by decide +kernel), List.mem_of_getElem? (i := 1302) (by decide +kernel)⟩
theorem lw_p42 : lw_okq (⟨"GunLineModel", "isWhole", "(Z)Z"⟩, 45) := ⟨⟨by decide +kernel, by decide +kernel⟩, List.mem_of_getElem? (i := 1101) (by decide +kernel), List.mem_of_getElem? (i := 1308) (by decide +kernel), List.mem_of_getElem? (i := 1309) (by decide +kernel)⟩
theorem lw_p43 : lw_okq (⟨"GunLineModel", "readLaw", "(I)I"⟩, 45) := ⟨⟨by decide +kernel, by decide +kernel⟩, List.mem_of_getElem? (i := 1101) (by decide +kernel), List.mem_of_getElem? (i := 1312) (by decide +kernel), List.mem_of_getElem? (i := 1313) (by decide +kernel)⟩
theorem lw_p44 : lw_okq (⟨"GunLineModel", "open", "(I)V"⟩, 45) := ⟨⟨by decide +kernel, by decide +kernel⟩, List.mem_of_getElem? (i := 1101) (by decide +kernel), List.mem_of_getElem? (i := 1316) (by decide +kernel), List.mem_of_getElem? (i := 1317) (by decide +kernel)⟩
theorem lw_p45 : lw_okq (⟨"GunLineModel", "clause", "()V"⟩, 45) := ⟨⟨by decide +kernel, by decide +kernel⟩, List.mem_of_getElem? (i := 1101) (by decide +kernel), List.mem_of_getElem? (i := 1320) (by decide +kernel), List.mem_of_getElem? (i := 1321) (by decide +kernel)⟩
theorem lw_p46 : lw_okq (⟨"GunLineModel", "condition", "()V"⟩, 45) := ⟨⟨by decide +kernel, by decide +kernel⟩, List.mem_of_getElem? (i := 1101) (by decide +kernel), List.mem_of_getElem? (i := 1324) (by decide +kernel), List.mem_of_getElem? (i := 1325) (by decide +kernel)⟩
theorem lw_p47 : lw_okq (⟨"GunLineModel", "unit", "()V"⟩, 45) := ⟨⟨by decide +kernel, by decide +kernel⟩, List.mem_of_getElem? (i := 1101) (by decide +kernel), List.mem_of_getElem? (i := 1328) (by decide +kernel), List.mem_of_getElem? (i := 1329) (by decide +kernel)⟩
def lw_privs_3 : List (MethodName × Nat) := [(⟨"GunLine", "duelOf", "(II)I"⟩, 18), (⟨"GunLine$Fleet", "joinDuel", "(II)V"⟩, 10), (⟨"GunLine$Fleet", "isRowFull", "(II)Z"⟩, 10), (⟨"java/lang/Throwable", "fillInStackTrace", "(I)Ljava/lang/Throwable;"⟩, 6), (⟨"GunLineModel", "readWater", "()I"⟩, 45), (⟨"GunLineModel", "look", "()I"⟩, 45), (⟨"GunLineModel", "here", "()I"⟩, 45), (⟨"GunLineModel", "items", "(I[III)V"⟩, 45), (⟨"GunLineModel", "number", "(II)I"⟩, 45), (⟨"GunLineModel", "bad", "()V"⟩, 45), (⟨"GunLineModel", "isWhole", "(Z)Z"⟩, 45), (⟨"GunLineModel", "readLaw", "(I)I"⟩, 45), (⟨"GunLineModel", "open", "(I)V"⟩, 45), (⟨"GunLineModel", "clause", "()V"⟩, 45), (⟨"GunLineModel", "condition", "()V"⟩, 45), (⟨"GunLineModel", "unit", "()V"⟩, 45)]
theorem lw_r3 : ∀ q ∈ lw_privs_3, lw_okq q := List.forall_mem_cons.mpr ⟨lw_p32, List.forall_mem_cons.mpr ⟨lw_p33, List.forall_mem_cons.mpr ⟨lw_p34, List.forall_mem_cons.mpr ⟨lw_p35, List.forall_mem_cons.mpr ⟨lw_p36, List.forall_mem_cons.mpr ⟨lw_p37, List.forall_mem_cons.mpr ⟨lw_p38, List.forall_mem_cons.mpr ⟨lw_p39, List.forall_mem_cons.mpr ⟨lw_p40, List.forall_mem_cons.mpr ⟨lw_p41, List.forall_mem_cons.mpr ⟨lw_p42, List.forall_mem_cons.mpr ⟨lw_p43, List.forall_mem_cons.mpr ⟨lw_p44, List.forall_mem_cons.mpr ⟨lw_p45, List.forall_mem_cons.mpr ⟨lw_p46, List.forall_mem_cons.mpr ⟨lw_p47, fun _ h => absurd h List.not_mem_nil⟩⟩⟩⟩⟩⟩⟩⟩⟩⟩⟩⟩⟩⟩⟩⟩
theorem lw_p48 : lw_okq (⟨"GunLineModel", "opens", "()V"⟩, 45) := ⟨⟨by decide +kernel, by decide +kernel⟩, List.mem_of_getElem? (i := 1101) (by decide +kernel), List.mem_of_getElem? (i := 1332) (by decide +kernel), List.mem_of_getElem? (i := 1333) (by decide +kernel)⟩
theorem lw_p49 : lw_okq (⟨"GunLineModel", "put", "(II)V"⟩, 45) := ⟨⟨by decide +kernel, by decide +kernel⟩, List.mem_of_getElem? (i := 1101) (by decide +kernel), List.mem_of_getElem? (i := 1336) (by decide +kernel), List.mem_of_getElem? (i := 1337) (by decide +kernel)⟩
theorem lw_p50 : lw_okq (⟨"GunLineModel", "closes", "(I)V"⟩, 45) := ⟨⟨by decide +kernel, by decide +kernel⟩, List.mem_of_getElem? (i := 1101) (by decide +kernel), List.mem_of_getElem? (i := 1340) (by decide +kernel), List.mem_of_getElem? (i := 1341) (by decide +kernel)⟩
theorem lw_p51 : lw_okq (⟨"GunLineModel", "sum", "()V"⟩, 45) := ⟨⟨by decide +kernel, by decide +kernel⟩, List.mem_of_getElem? (i := 1101) (by decide +kernel), List.mem_of_getElem? (i := 1344) (by decide +kernel), List.mem_of_getElem? (i := 1345) (by decide +kernel)⟩
theorem lw_p52 : lw_okq (⟨"GunLineModel", "term", "()V"⟩, 45) := ⟨⟨by decide +kernel, by decide +kernel⟩, List.mem_of_getElem? (i := 1101) (by decide +kernel), List.mem_of_getElem? (i := 1348) (by decide +kernel), List.mem_of_getElem? (i := 1349) (by decide +kernel)⟩
theorem lw_p53 : lw_okq (⟨"GunLineModel", "atom", "()V"⟩, 45) := ⟨⟨by decide +kernel, by decide +kernel⟩, List.mem_of_getElem? (i := 1101) (by decide +kernel), List.mem_of_getElem? (i := 1352) (by decide +kernel), List.mem_of_getElem? (i := 1353) (by decide +kernel)⟩
theorem lw_p54 : lw_okq (⟨"GunLineModel", "plainNumber", "()I"⟩, 45) := ⟨⟨by decide +kernel, by decide +kernel⟩, List.mem_of_getElem? (i := 1101) (by decide +kernel), List.mem_of_getElem? (i := 1356) (by decide +kernel), List.mem_of_getElem? (i := 1357) (by decide +kernel)⟩
theorem lw_p55 : lw_okq (⟨"GunLineModel", "compare", "()V"⟩, 45) := ⟨⟨by decide +kernel, by decide +kernel⟩, List.mem_of_getElem? (i := 1101) (by decide +kernel), List.mem_of_getElem? (i := 1363) (by decide +kernel), List.mem_of_getElem? (i := 1364) (by decide +kernel)⟩
theorem lw_p56 : lw_okq (⟨"GunLineModel", "goOnAnd", "()V"⟩, 45) := ⟨⟨by decide +kernel, by decide +kernel⟩, List.mem_of_getElem? (i := 1101) (by decide +kernel), List.mem_of_getElem? (i := 1370) (by decide +kernel), List.mem_of_getElem? (i := 1371) (by decide +kernel)⟩
theorem lw_p57 : lw_okq (⟨"GunLineModel", "goOnOr", "()V"⟩, 45) := ⟨⟨by decide +kernel, by decide +kernel⟩, List.mem_of_getElem? (i := 1101) (by decide +kernel), List.mem_of_getElem? (i := 1374) (by decide +kernel), List.mem_of_getElem? (i := 1375) (by decide +kernel)⟩
theorem lw_p58 : lw_okq (⟨"GunLineModel", "atEnd", "()I"⟩, 45) := ⟨⟨by decide +kernel, by decide +kernel⟩, List.mem_of_getElem? (i := 1101) (by decide +kernel), List.mem_of_getElem? (i := 1378) (by decide +kernel), List.mem_of_getElem? (i := 1379) (by decide +kernel)⟩
theorem lw_p59 : lw_okq (⟨"GunLineModel", "takeWater", "()I"⟩, 45) := ⟨⟨by decide +kernel, by decide +kernel⟩, List.mem_of_getElem? (i := 1101) (by decide +kernel), List.mem_of_getElem? (i := 1386) (by decide +kernel), List.mem_of_getElem? (i := 1387) (by decide +kernel)⟩
theorem lw_p60 : lw_okq (⟨"GunLineModel", "begin", "()V"⟩, 45) := ⟨⟨by decide +kernel, by decide +kernel⟩, List.mem_of_getElem? (i := 1101) (by decide +kernel), List.mem_of_getElem? (i := 1390) (by decide +kernel), List.mem_of_getElem? (i := 1391) (by decide +kernel)⟩
theorem lw_p61 : lw_okq (⟨"GunLineModel", "put", "(III)V"⟩, 45) := ⟨⟨by decide +kernel, by decide +kernel⟩, List.mem_of_getElem? (i := 1101) (by decide +kernel), List.mem_of_getElem? (i := 1394) (by decide +kernel), List.mem_of_getElem? (i := 1395) (by decide +kernel)⟩
theorem lw_p62 : lw_okq (⟨"GunLineModel", "isBoat", "(I)Z"⟩, 45) := ⟨⟨by decide +kernel, by decide +kernel⟩, List.mem_of_getElem? (i := 1101) (by decide +kernel), List.mem_of_getElem? (i := 1402) (by decide +kernel), List.mem_of_getElem? (i := 1403) (by decide +kernel)⟩
theorem lw_p63 : lw_okq (⟨"GunLineModel", "of", "(II)I"⟩, 45) := ⟨⟨by decide +kernel, by decide +kernel⟩, List.mem_of_getElem? (i := 1101) (by decide +kernel), List.mem_of_getElem? (i := 1406) (by decide +kernel), List.mem_of_getElem? (i := 1407) (by decide +kernel)⟩
def lw_privs_4 : List (MethodName × Nat) := [(⟨"GunLineModel", "opens", "()V"⟩, 45), (⟨"GunLineModel", "put", "(II)V"⟩, 45), (⟨"GunLineModel", "closes", "(I)V"⟩, 45), (⟨"GunLineModel", "sum", "()V"⟩, 45), (⟨"GunLineModel", "term", "()V"⟩, 45), (⟨"GunLineModel", "atom", "()V"⟩, 45), (⟨"GunLineModel", "plainNumber", "()I"⟩, 45), (⟨"GunLineModel", "compare", "()V"⟩, 45), (⟨"GunLineModel", "goOnAnd", "()V"⟩, 45), (⟨"GunLineModel", "goOnOr", "()V"⟩, 45), (⟨"GunLineModel", "atEnd", "()I"⟩, 45), (⟨"GunLineModel", "takeWater", "()I"⟩, 45), (⟨"GunLineModel", "begin", "()V"⟩, 45), (⟨"GunLineModel", "put", "(III)V"⟩, 45), (⟨"GunLineModel", "isBoat", "(I)Z"⟩, 45), (⟨"GunLineModel", "of", "(II)I"⟩, 45)]
theorem lw_r4 : ∀ q ∈ lw_privs_4, lw_okq q := List.forall_mem_cons.mpr ⟨lw_p48, List.forall_mem_cons.mpr ⟨lw_p49, List.forall_mem_cons.mpr ⟨lw_p50, List.forall_mem_cons.mpr ⟨lw_p51, List.forall_mem_cons.mpr ⟨lw_p52, List.forall_mem_cons.mpr ⟨lw_p53, List.forall_mem_cons.mpr ⟨lw_p54, List.forall_mem_cons.mpr ⟨lw_p55, List.forall_mem_cons.mpr ⟨lw_p56, List.forall_mem_cons.mpr ⟨lw_p57, List.forall_mem_cons.mpr ⟨lw_p58, List.forall_mem_cons.mpr ⟨lw_p59, List.forall_mem_cons.mpr ⟨lw_p60, List.forall_mem_cons.mpr ⟨lw_p61, List.forall_mem_cons.mpr ⟨lw_p62, List.forall_mem_cons.mpr ⟨lw_p63, fun _ h => absurd h List.not_mem_nil⟩⟩⟩⟩⟩⟩⟩⟩⟩⟩⟩⟩⟩⟩⟩⟩
theorem lw_p64 : lw_okq (⟨"GunLineModel", "most", "(I)I"⟩, 45) := ⟨⟨by decide +kernel, by decide +kernel⟩, List.mem_of_getElem? (i := 1101) (by decide +kernel), List.mem_of_getElem? (i := 1410) (by decide +kernel), List.mem_of_getElem? (i := 1411) (by decide +kernel)⟩
theorem lw_p65 : lw_okq (⟨"GunLineModel", "statusBy", "(II)I"⟩, 45) := ⟨⟨by decide +kernel, by decide +kernel⟩, List.mem_of_getElem? (i := 1101) (by decide +kernel), List.mem_of_getElem? (i := 1414) (by decide +kernel), List.mem_of_getElem? (i := 1415) (by decide +kernel)⟩
theorem lw_p66 : lw_okq (⟨"GunLineModel", "scoreOf", "(I)I"⟩, 45) := ⟨⟨by decide +kernel, by decide +kernel⟩, List.mem_of_getElem? (i := 1101) (by decide +kernel), List.mem_of_getElem? (i := 1418) (by decide +kernel), List.mem_of_getElem? (i := 1419) (by decide +kernel)⟩
theorem lw_p67 : lw_okq (⟨"GunLineModel", "scoreBy", "(II)I"⟩, 45) := ⟨⟨by decide +kernel, by decide +kernel⟩, List.mem_of_getElem? (i := 1101) (by decide +kernel), List.mem_of_getElem? (i := 1422) (by decide +kernel), List.mem_of_getElem? (i := 1423) (by decide +kernel)⟩
theorem lw_p68 : lw_okq (⟨"GunLineModel", "isShadowed", "(I)Z"⟩, 45) := ⟨⟨by decide +kernel, by decide +kernel⟩, List.mem_of_getElem? (i := 1101) (by decide +kernel), List.mem_of_getElem? (i := 1427) (by decide +kernel), List.mem_of_getElem? (i := 1428) (by decide +kernel)⟩
theorem lw_p69 : lw_okq (⟨"GunLineModel", "placeOf", "(I)I"⟩, 45) := ⟨⟨by decide +kernel, by decide +kernel⟩, List.mem_of_getElem? (i := 1101) (by decide +kernel), List.mem_of_getElem? (i := 1434) (by decide +kernel), List.mem_of_getElem? (i := 1435) (by decide +kernel)⟩
theorem lw_p70 : lw_okq (⟨"GunLineModel", "placeBy", "(II)I"⟩, 45) := ⟨⟨by decide +kernel, by decide +kernel⟩, List.mem_of_getElem? (i := 1101) (by decide +kernel), List.mem_of_getElem? (i := 1438) (by decide +kernel), List.mem_of_getElem? (i := 1439) (by decide +kernel)⟩
theorem lw_p71 : lw_okq (⟨"GunLineModel", "believed", "(I)I"⟩, 45) := ⟨⟨by decide +kernel, by decide +kernel⟩, List.mem_of_getElem? (i := 1101) (by decide +kernel), List.mem_of_getElem? (i := 1442) (by decide +kernel), List.mem_of_getElem? (i := 1443) (by decide +kernel)⟩
theorem lw_p72 : lw_okq (⟨"GunLineModel", "keep", "()I"⟩, 45) := ⟨⟨by decide +kernel, by decide +kernel⟩, List.mem_of_getElem? (i := 1101) (by decide +kernel), List.mem_of_getElem? (i := 1454) (by decide +kernel), List.mem_of_getElem? (i := 1455) (by decide +kernel)⟩
theorem lw_p73 : lw_okq (⟨"GunLineModel", "isHeld", "(II)Z"⟩, 45) := ⟨⟨by decide +kernel, by decide +kernel⟩, List.mem_of_getElem? (i := 1101) (by decide +kernel), List.mem_of_getElem? (i := 1470) (by decide +kernel), List.mem_of_getElem? (i := 1471) (by decide +kernel)⟩
theorem lw_p74 : lw_okq (⟨"GunLineModel", "areSeconds", "(I)Z"⟩, 45) := ⟨⟨by decide +kernel, by decide +kernel⟩, List.mem_of_getElem? (i := 1101) (by decide +kernel), List.mem_of_getElem? (i := 1482) (by decide +kernel), List.mem_of_getElem? (i := 1483) (by decide +kernel)⟩
theorem lw_p75 : lw_okq (⟨"GunLineModel", "leftSeconds", "()I"⟩, 45) := ⟨⟨by decide +kernel, by decide +kernel⟩, List.mem_of_getElem? (i := 1101) (by decide +kernel), List.mem_of_getElem? (i := 1486) (by decide +kernel), List.mem_of_getElem? (i := 1487) (by decide +kernel)⟩
theorem lw_p76 : lw_okq (⟨"GunLineModel", "pass", "()V"⟩, 45) := ⟨⟨by decide +kernel, by decide +kernel⟩, List.mem_of_getElem? (i := 1101) (by decide +kernel), List.mem_of_getElem? (i := 1490) (by decide +kernel), List.mem_of_getElem? (i := 1491) (by decide +kernel)⟩
theorem lw_p77 : lw_okq (⟨"GunLineModel", "speedAll", "()V"⟩, 45) := ⟨⟨by decide +kernel, by decide +kernel⟩, List.mem_of_getElem? (i := 1101) (by decide +kernel), List.mem_of_getElem? (i := 1494) (by decide +kernel), List.mem_of_getElem? (i := 1495) (by decide +kernel)⟩
theorem lw_p78 : lw_okq (⟨"GunLineModel", "wantsOf", "(I)I"⟩, 45) := ⟨⟨by decide +kernel, by decide +kernel⟩, List.mem_of_getElem? (i := 1101) (by decide +kernel), List.mem_of_getElem? (i := 1498) (by decide +kernel), List.mem_of_getElem? (i := 1499) (by decide +kernel)⟩
theorem lw_p79 : lw_okq (⟨"GunLineModel", "isLeewardHeld", "(I)Z"⟩, 45) := ⟨⟨by decide +kernel, by decide +kernel⟩, List.mem_of_getElem? (i := 1101) (by decide +kernel), List.mem_of_getElem? (i := 1502) (by decide +kernel), List.mem_of_getElem? (i := 1503) (by decide +kernel)⟩
def lw_privs_5 : List (MethodName × Nat) := [(⟨"GunLineModel", "most", "(I)I"⟩, 45), (⟨"GunLineModel", "statusBy", "(II)I"⟩, 45), (⟨"GunLineModel", "scoreOf", "(I)I"⟩, 45), (⟨"GunLineModel", "scoreBy", "(II)I"⟩, 45), (⟨"GunLineModel", "isShadowed", "(I)Z"⟩, 45), (⟨"GunLineModel", "placeOf", "(I)I"⟩, 45), (⟨"GunLineModel", "placeBy", "(II)I"⟩, 45), (⟨"GunLineModel", "believed", "(I)I"⟩, 45), (⟨"GunLineModel", "keep", "()I"⟩, 45), (⟨"GunLineModel", "isHeld", "(II)Z"⟩, 45), (⟨"GunLineModel", "areSeconds", "(I)Z"⟩, 45), (⟨"GunLineModel", "leftSeconds", "()I"⟩, 45), (⟨"GunLineModel", "pass", "()V"⟩, 45), (⟨"GunLineModel", "speedAll", "()V"⟩, 45), (⟨"GunLineModel", "wantsOf", "(I)I"⟩, 45), (⟨"GunLineModel", "isLeewardHeld", "(I)Z"⟩, 45)]
theorem lw_r5 : ∀ q ∈ lw_privs_5, lw_okq q := List.forall_mem_cons.mpr ⟨lw_p64, List.forall_mem_cons.mpr ⟨lw_p65, List.forall_mem_cons.mpr ⟨lw_p66, List.forall_mem_cons.mpr ⟨lw_p67, List.forall_mem_cons.mpr ⟨lw_p68, List.forall_mem_cons.mpr ⟨lw_p69, List.forall_mem_cons.mpr ⟨lw_p70, List.forall_mem_cons.mpr ⟨lw_p71, List.forall_mem_cons.mpr ⟨lw_p72, List.forall_mem_cons.mpr ⟨lw_p73, List.forall_mem_cons.mpr ⟨lw_p74, List.forall_mem_cons.mpr ⟨lw_p75, List.forall_mem_cons.mpr ⟨lw_p76, List.forall_mem_cons.mpr ⟨lw_p77, List.forall_mem_cons.mpr ⟨lw_p78, List.forall_mem_cons.mpr ⟨lw_p79, fun _ h => absurd h List.not_mem_nil⟩⟩⟩⟩⟩⟩⟩⟩⟩⟩⟩⟩⟩⟩⟩⟩
theorem lw_p80 : lw_okq (⟨"GunLineModel", "worthOf", "(I)I"⟩, 45) := ⟨⟨by decide +kernel, by decide +kernel⟩, List.mem_of_getElem? (i := 1101) (by decide +kernel), List.mem_of_getElem? (i := 1506) (by decide +kernel), List.mem_of_getElem? (i := 1507) (by decide +kernel)⟩
theorem lw_p81 : lw_okq (⟨"GunLineModel", "workOut", "(III)I"⟩, 45) := ⟨⟨by decide +kernel, by decide +kernel⟩, List.mem_of_getElem? (i := 1101) (by decide +kernel), List.mem_of_getElem? (i := 1510) (by decide +kernel), List.mem_of_getElem? (i := 1511) (by decide +kernel)⟩
theorem lw_p82 : lw_okq (⟨"GunLineModel", "faster", "(II)V"⟩, 45) := ⟨⟨by decide +kernel, by decide +kernel⟩, List.mem_of_getElem? (i := 1101) (by decide +kernel), List.mem_of_getElem? (i := 1531) (by decide +kernel), List.mem_of_getElem? (i := 1532) (by decide +kernel)⟩
theorem lw_p83 : lw_okq (⟨"GunLineModel", "goAll", "()V"⟩, 45) := ⟨⟨by decide +kernel, by decide +kernel⟩, List.mem_of_getElem? (i := 1101) (by decide +kernel), List.mem_of_getElem? (i := 1536) (by decide +kernel), List.mem_of_getElem? (i := 1537) (by decide +kernel)⟩
theorem lw_p84 : lw_okq (⟨"GunLineModel", "goOne", "(I)V"⟩, 45) := ⟨⟨by decide +kernel, by decide +kernel⟩, List.mem_of_getElem? (i := 1101) (by decide +kernel), List.mem_of_getElem? (i := 1540) (by decide +kernel), List.mem_of_getElem? (i := 1541) (by decide +kernel)⟩
theorem lw_p85 : lw_okq (⟨"GunLineModel", "drift", "()V"⟩, 45) := ⟨⟨by decide +kernel, by decide +kernel⟩, List.mem_of_getElem? (i := 1101) (by decide +kernel), List.mem_of_getElem? (i := 1544) (by decide +kernel), List.mem_of_getElem? (i := 1545) (by decide +kernel)⟩
theorem lw_p86 : lw_okq (⟨"GunLineModel", "draw", "(I)I"⟩, 45) := ⟨⟨by decide +kernel, by decide +kernel⟩, List.mem_of_getElem? (i := 1101) (by decide +kernel), List.mem_of_getElem? (i := 1552) (by decide +kernel), List.mem_of_getElem? (i := 1553) (by decide +kernel)⟩
theorem lw_p87 : lw_okq (⟨"GunLineModel", "putAside", "()V"⟩, 45) := ⟨⟨by decide +kernel, by decide +kernel⟩, List.mem_of_getElem? (i := 1101) (by decide +kernel), List.mem_of_getElem? (i := 1567) (by decide +kernel), List.mem_of_getElem? (i := 1568) (by decide +kernel)⟩
theorem lw_p88 : lw_okq (⟨"GunLineModel", "toGun", "()V"⟩, 45) := ⟨⟨by decide +kernel, by decide +kernel⟩, List.mem_of_getElem? (i := 1101) (by decide +kernel), List.mem_of_getElem? (i := 1571) (by decide +kernel), List.mem_of_getElem? (i := 1572) (by decide +kernel)⟩
theorem lw_p89 : lw_okq (⟨"GunLineModel", "takeBack", "()V"⟩, 45) := ⟨⟨by decide +kernel, by decide +kernel⟩, List.mem_of_getElem? (i := 1101) (by decide +kernel), List.mem_of_getElem? (i := 1575) (by decide +kernel), List.mem_of_getElem? (i := 1576) (by decide +kernel)⟩
theorem lw_p90 : lw_okq (⟨"GunLineModel", "bestCell", "(IIII)I"⟩, 45) := ⟨⟨by decide +kernel, by decide +kernel⟩, List.mem_of_getElem? (i := 1101) (by decide +kernel), List.mem_of_getElem? (i := 1583) (by decide +kernel), List.mem_of_getElem? (i := 1584) (by decide +kernel)⟩
theorem lw_p91 : lw_okq (⟨"GunLineModel", "scoreAtGun", "(I)I"⟩, 45) := ⟨⟨by decide +kernel, by decide +kernel⟩, List.mem_of_getElem? (i := 1101) (by decide +kernel), List.mem_of_getElem? (i := 1587) (by decide +kernel), List.mem_of_getElem? (i := 1588) (by decide +kernel)⟩
theorem lw_p92 : lw_okq (⟨"GunLineModel", "thirdOf", "(I)I"⟩, 45) := ⟨⟨by decide +kernel, by decide +kernel⟩, List.mem_of_getElem? (i := 1101) (by decide +kernel), List.mem_of_getElem? (i := 1611) (by decide +kernel), List.mem_of_getElem? (i := 1612) (by decide +kernel)⟩
theorem lw_p93 : lw_okq (⟨"GunLineModel", "rows", "()I"⟩, 45) := ⟨⟨by decide +kernel, by decide +kernel⟩, List.mem_of_getElem? (i := 1101) (by decide +kernel), List.mem_of_getElem? (i := 1638) (by decide +kernel), List.mem_of_getElem? (i := 1639) (by decide +kernel)⟩
theorem lw_p94 : lw_okq (⟨"GunLineModel", "layThirds", "(I)V"⟩, 45) := ⟨⟨by decide +kernel, by decide +kernel⟩, List.mem_of_getElem? (i := 1101) (by decide +kernel), List.mem_of_getElem? (i := 1642) (by decide +kernel), List.mem_of_getElem? (i := 1643) (by decide +kernel)⟩
theorem lw_p95 : lw_okq (⟨"GunLineModel", "isRest", "(I)Z"⟩, 45) := ⟨⟨by decide +kernel, by decide +kernel⟩, List.mem_of_getElem? (i := 1101) (by decide +kernel), List.mem_of_getElem? (i := 1646) (by decide +kernel), List.mem_of_getElem? (i := 1647) (by decide +kernel)⟩
def lw_privs_6 : List (MethodName × Nat) := [(⟨"GunLineModel", "worthOf", "(I)I"⟩, 45), (⟨"GunLineModel", "workOut", "(III)I"⟩, 45), (⟨"GunLineModel", "faster", "(II)V"⟩, 45), (⟨"GunLineModel", "goAll", "()V"⟩, 45), (⟨"GunLineModel", "goOne", "(I)V"⟩, 45), (⟨"GunLineModel", "drift", "()V"⟩, 45), (⟨"GunLineModel", "draw", "(I)I"⟩, 45), (⟨"GunLineModel", "putAside", "()V"⟩, 45), (⟨"GunLineModel", "toGun", "()V"⟩, 45), (⟨"GunLineModel", "takeBack", "()V"⟩, 45), (⟨"GunLineModel", "bestCell", "(IIII)I"⟩, 45), (⟨"GunLineModel", "scoreAtGun", "(I)I"⟩, 45), (⟨"GunLineModel", "thirdOf", "(I)I"⟩, 45), (⟨"GunLineModel", "rows", "()I"⟩, 45), (⟨"GunLineModel", "layThirds", "(I)V"⟩, 45), (⟨"GunLineModel", "isRest", "(I)Z"⟩, 45)]
theorem lw_r6 : ∀ q ∈ lw_privs_6, lw_okq q := List.forall_mem_cons.mpr ⟨lw_p80, List.forall_mem_cons.mpr ⟨lw_p81, List.forall_mem_cons.mpr ⟨lw_p82, List.forall_mem_cons.mpr ⟨lw_p83, List.forall_mem_cons.mpr ⟨lw_p84, List.forall_mem_cons.mpr ⟨lw_p85, List.forall_mem_cons.mpr ⟨lw_p86, List.forall_mem_cons.mpr ⟨lw_p87, List.forall_mem_cons.mpr ⟨lw_p88, List.forall_mem_cons.mpr ⟨lw_p89, List.forall_mem_cons.mpr ⟨lw_p90, List.forall_mem_cons.mpr ⟨lw_p91, List.forall_mem_cons.mpr ⟨lw_p92, List.forall_mem_cons.mpr ⟨lw_p93, List.forall_mem_cons.mpr ⟨lw_p94, List.forall_mem_cons.mpr ⟨lw_p95, fun _ h => absurd h List.not_mem_nil⟩⟩⟩⟩⟩⟩⟩⟩⟩⟩⟩⟩⟩⟩⟩⟩
theorem lw_p96 : lw_okq (⟨"GunLineModel", "thirdWorth", "(III)I"⟩, 45) := ⟨⟨by decide +kernel, by decide +kernel⟩, List.mem_of_getElem? (i := 1101) (by decide +kernel), List.mem_of_getElem? (i := 1650) (by decide +kernel), List.mem_of_getElem? (i := 1651) (by decide +kernel)⟩
theorem lw_p97 : lw_okq (⟨"GunLineModel", "fullest", "(I)I"⟩, 45) := ⟨⟨by decide +kernel, by decide +kernel⟩, List.mem_of_getElem? (i := 1101) (by decide +kernel), List.mem_of_getElem? (i := 1658) (by decide +kernel), List.mem_of_getElem? (i := 1659) (by decide +kernel)⟩
theorem lw_p98 : lw_okq (⟨"GunLineModel", "isLaw", "(I)Z"⟩, 45) := ⟨⟨by decide +kernel, by decide +kernel⟩, List.mem_of_getElem? (i := 1101) (by decide +kernel), List.mem_of_getElem? (i := 1666) (by decide +kernel), List.mem_of_getElem? (i := 1667) (by decide +kernel)⟩
theorem lw_p99 : lw_okq (⟨"GunLineModel", "duelOf", "(II)I"⟩, 45) := ⟨⟨by decide +kernel, by decide +kernel⟩, List.mem_of_getElem? (i := 1101) (by decide +kernel), List.mem_of_getElem? (i := 1670) (by decide +kernel), List.mem_of_getElem? (i := 1671) (by decide +kernel)⟩
theorem lw_p100 : lw_okq (⟨"GunLineModel", "sumOfDuels", "(I)I"⟩, 45) := ⟨⟨by decide +kernel, by decide +kernel⟩, List.mem_of_getElem? (i := 1101) (by decide +kernel), List.mem_of_getElem? (i := 1682) (by decide +kernel), List.mem_of_getElem? (i := 1683) (by decide +kernel)⟩
theorem lw_p101 : lw_okq (⟨"GunLineModel", "wasSo", "(II)Z"⟩, 45) := ⟨⟨by decide +kernel, by decide +kernel⟩, List.mem_of_getElem? (i := 1101) (by decide +kernel), List.mem_of_getElem? (i := 1694) (by decide +kernel), List.mem_of_getElem? (i := 1695) (by decide +kernel)⟩
theorem lw_p102 : lw_okq (⟨"GunLineModel", "write", "()V"⟩, 45) := ⟨⟨by decide +kernel, by decide +kernel⟩, List.mem_of_getElem? (i := 1101) (by decide +kernel), List.mem_of_getElem? (i := 1702) (by decide +kernel), List.mem_of_getElem? (i := 1703) (by decide +kernel)⟩
theorem lw_p103 : lw_okq (⟨"GunLineModel", "pointsOf", "(I)I"⟩, 45) := ⟨⟨by decide +kernel, by decide +kernel⟩, List.mem_of_getElem? (i := 1101) (by decide +kernel), List.mem_of_getElem? (i := 1710) (by decide +kernel), List.mem_of_getElem? (i := 1711) (by decide +kernel)⟩
theorem lw_p104 : lw_okq (⟨"GunLineModel", "drawCell", "(I)V"⟩, 45) := ⟨⟨by decide +kernel, by decide +kernel⟩, List.mem_of_getElem? (i := 1101) (by decide +kernel), List.mem_of_getElem? (i := 1722) (by decide +kernel), List.mem_of_getElem? (i := 1723) (by decide +kernel)⟩
theorem lw_p105 : lw_okq (⟨"GunLineModel", "isHeldAhead", "(III)Z"⟩, 45) := ⟨⟨by decide +kernel, by decide +kernel⟩, List.mem_of_getElem? (i := 1101) (by decide +kernel), List.mem_of_getElem? (i := 1726) (by decide +kernel), List.mem_of_getElem? (i := 1727) (by decide +kernel)⟩
def lw_privs_7 : List (MethodName × Nat) := [(⟨"GunLineModel", "thirdWorth", "(III)I"⟩, 45), (⟨"GunLineModel", "fullest", "(I)I"⟩, 45), (⟨"GunLineModel", "isLaw", "(I)Z"⟩, 45), (⟨"GunLineModel", "duelOf", "(II)I"⟩, 45), (⟨"GunLineModel", "sumOfDuels", "(I)I"⟩, 45), (⟨"GunLineModel", "wasSo", "(II)Z"⟩, 45), (⟨"GunLineModel", "write", "()V"⟩, 45), (⟨"GunLineModel", "pointsOf", "(I)I"⟩, 45), (⟨"GunLineModel", "drawCell", "(I)V"⟩, 45), (⟨"GunLineModel", "isHeldAhead", "(III)Z"⟩, 45)]
theorem lw_r7 : ∀ q ∈ lw_privs_7, lw_okq q := List.forall_mem_cons.mpr ⟨lw_p96, List.forall_mem_cons.mpr ⟨lw_p97, List.forall_mem_cons.mpr ⟨lw_p98, List.forall_mem_cons.mpr ⟨lw_p99, List.forall_mem_cons.mpr ⟨lw_p100, List.forall_mem_cons.mpr ⟨lw_p101, List.forall_mem_cons.mpr ⟨lw_p102, List.forall_mem_cons.mpr ⟨lw_p103, List.forall_mem_cons.mpr ⟨lw_p104, List.forall_mem_cons.mpr ⟨lw_p105, fun _ h => absurd h List.not_mem_nil⟩⟩⟩⟩⟩⟩⟩⟩⟩⟩
def lw_privs : List (MethodName × Nat) := lw_privs_1 ++ (lw_privs_2 ++ (lw_privs_3 ++ (lw_privs_4 ++ (lw_privs_5 ++ (lw_privs_6 ++ (lw_privs_7))))))
def lw_tbl : List Cond := k2_sels lw_privs ++ tables_1
theorem lw_privs_ok : ∀ q ∈ lw_privs, lw_okq q := by
  show ∀ q ∈ lw_privs_1 ++ (lw_privs_2 ++ (lw_privs_3 ++ (lw_privs_4 ++ (lw_privs_5 ++ (lw_privs_6 ++ (lw_privs_7)))))), lw_okq q
  exact List.forall_mem_append.mpr ⟨lw_r1, List.forall_mem_append.mpr ⟨lw_r2, List.forall_mem_append.mpr ⟨lw_r3, List.forall_mem_append.mpr ⟨lw_r4, List.forall_mem_append.mpr ⟨lw_r5, List.forall_mem_append.mpr ⟨lw_r6, lw_r7⟩⟩⟩⟩⟩⟩
-- ===== end of PART A; then your names; then what follows =====
end
section
/-! ===== BEGIN printed: names, fields, word lists, decode rows ===== -/
def RX0 : String := "GunLine$Acts"
def TX0 : u_T := fun k => match k with
  | 0 => ("GunLine$Acts", "rows", "[I", true)
  | 1 => ("GunLine$Acts", "next", "I", false)
  | _ => ("GunLine$Acts", "count", "I", false)
def tyX0 : Nat → FieldType := fun k => match k with
  | 0 => .array .int
  | 1 => .int
  | _ => .int
abbrev wsX00 : List Cond := u_ws RX0 TX0 3
theorem nmX0 : ∀ a, a < 3 → ∀ b, b < 3 → a ≠ b → (TX0 a).2.1 ≠ (TX0 b).2.1 := by decide +kernel
theorem tyX0_ok : ∀ k, k < 3 → parseFieldDescriptor (TX0 k).2.2.1 = some (tyX0 k) := by decide +kernel
abbrev cX0_init : ByteArray := prog_2_method_1_code
def yX0_init : MethodName := ⟨RX0, "<init>", "()V"⟩
abbrev cX0_forget : ByteArray := prog_2_method_2_code
def yX0_forget : MethodName := ⟨RX0, "forget", "()V"⟩
abbrev cX0_remember : ByteArray := prog_2_method_3_code
def yX0_remember : MethodName := ⟨RX0, "remember", "(LGunLine$Fleet;)V"⟩
abbrev cX0_takeBack : ByteArray := prog_2_method_4_code
def yX0_takeBack : MethodName := ⟨RX0, "takeBack", "(LGunLine$Fleet;)V"⟩
def RX1 : String := "GunLine$Course"
def TX1 : u_T := fun k => match k with
  | _ => ("GunLine$Course", "value", "[I", true)
def tyX1 : Nat → FieldType := fun k => match k with
  | _ => .array .int
abbrev wsX10 : List Cond := u_ws RX1 TX1 1
theorem nmX1 : ∀ a, a < 1 → ∀ b, b < 1 → a ≠ b → (TX1 a).2.1 ≠ (TX1 b).2.1 := by decide +kernel
theorem tyX1_ok : ∀ k, k < 1 → parseFieldDescriptor (TX1 k).2.2.1 = some (tyX1 k) := by decide +kernel
abbrev cX1_init : ByteArray := prog_3_method_1_code
def yX1_init : MethodName := ⟨RX1, "<init>", "()V"⟩
abbrev cX1_copyFrom : ByteArray := prog_3_method_2_code
def yX1_copyFrom : MethodName := ⟨RX1, "copyFrom", "(LGunLine$Course;)V"⟩
abbrev cX1_setForDuel : ByteArray := prog_3_method_3_code
def yX1_setForDuel : MethodName := ⟨RX1, "setForDuel", "(I)V"⟩
abbrev cX1_hasColumn : ByteArray := prog_3_method_4_code
def yX1_hasColumn : MethodName := ⟨RX1, "hasColumn", "(I)Z"⟩
abbrev cX1_thirdOf : ByteArray := prog_3_method_5_code
def yX1_thirdOf : MethodName := ⟨RX1, "thirdOf", "(I)I"⟩
abbrev cX1_secondsLeft : ByteArray := prog_3_method_6_code
def yX1_secondsLeft : MethodName := ⟨RX1, "secondsLeft", "(LGunLine$Fleet;)I"⟩
abbrev cX1_statusOf : ByteArray := prog_3_method_7_code
def yX1_statusOf : MethodName := ⟨RX1, "statusOf", "(LGunLine$Fleet;I)I"⟩
abbrev cX1_scoreOf : ByteArray := prog_3_method_8_code
def yX1_scoreOf : MethodName := ⟨RX1, "scoreOf", "(LGunLine$Fleet;I)I"⟩
abbrev cX1_worthOfColumn : ByteArray := prog_3_method_9_code
def yX1_worthOfColumn : MethodName := ⟨RX1, "worthOfColumn", "(I)I"⟩
abbrev cX1_placeOf : ByteArray := prog_3_method_10_code
def yX1_placeOf : MethodName := ⟨RX1, "placeOf", "(LGunLine$Fleet;I)I"⟩
def RX2 : String := "GunLine$Draws"
def TX2 : u_T := fun k => match k with
  | _ => ("GunLine$Draws", "x", "J", false)
def tyX2 : Nat → FieldType := fun k => match k with
  | _ => .long
abbrev wsX20 : List Cond := u_ws RX2 TX2 1
theorem nmX2 : ∀ a, a < 1 → ∀ b, b < 1 → a ≠ b → (TX2 a).2.1 ≠ (TX2 b).2.1 := by decide +kernel
theorem tyX2_ok : ∀ k, k < 1 → parseFieldDescriptor (TX2 k).2.2.1 = some (tyX2 k) := by decide +kernel
abbrev cX2_init : ByteArray := prog_4_method_1_code
def yX2_init : MethodName := ⟨RX2, "<init>", "()V"⟩
abbrev cX2_begin : ByteArray := prog_4_method_2_code
def yX2_begin : MethodName := ⟨RX2, "begin", "(J)V"⟩
abbrev cX2_next : ByteArray := prog_4_method_3_code
def yX2_next : MethodName := ⟨RX2, "next", "(I)I"⟩
def RX3 : String := "GunLine$Fleet"
def TX3 : u_T := fun k => match k with
  | 0 => ("GunLine$Fleet", "column", "[I", true)
  | 1 => ("GunLine$Fleet", "back", "[I", true)
  | 2 => ("GunLine$Fleet", "speed", "[I", true)
  | 3 => ("GunLine$Fleet", "most", "[I", true)
  | 4 => ("GunLine$Fleet", "slip", "[I", true)
  | 5 => ("GunLine$Fleet", "rule", "[I", true)
  | 6 => ("GunLine$Fleet", "mark", "[I", true)
  | 7 => ("GunLine$Fleet", "early", "[I", true)
  | 8 => ("GunLine$Fleet", "count", "I", false)
  | _ => ("GunLine$Fleet", "second", "I", false)
def tyX3 : Nat → FieldType := fun k => match k with
  | 0 => .array .int
  | 1 => .array .int
  | 2 => .array .int
  | 3 => .array .int
  | 4 => .array .int
  | 5 => .array .int
  | 6 => .array .int
  | 7 => .array .int
  | 8 => .int
  | _ => .int
abbrev wsX30 : List Cond := u_ws RX3 TX3 10
theorem nmX3 : ∀ a, a < 10 → ∀ b, b < 10 → a ≠ b → (TX3 a).2.1 ≠ (TX3 b).2.1 := by decide +kernel
theorem tyX3_ok : ∀ k, k < 10 → parseFieldDescriptor (TX3 k).2.2.1 = some (tyX3 k) := by decide +kernel
abbrev cX3_init : ByteArray := prog_5_method_1_code
def yX3_init : MethodName := ⟨RX3, "<init>", "()V"⟩
abbrev cX3_empty : ByteArray := prog_5_method_2_code
def yX3_empty : MethodName := ⟨RX3, "empty", "()V"⟩
abbrev cX3_join : ByteArray := prog_5_method_3_code
def yX3_join : MethodName := ⟨RX3, "join", "([I)V"⟩
abbrev cX3_setForDuel : ByteArray := prog_5_method_4_code
def yX3_setForDuel : MethodName := ⟨RX3, "setForDuel", "(II)V"⟩
abbrev cX3_joinDuel : ByteArray := prog_5_method_5_code
def yX3_joinDuel : MethodName := ⟨RX3, "joinDuel", "(II)V"⟩
abbrev cX3_copyFrom : ByteArray := prog_5_method_6_code
def yX3_copyFrom : MethodName := ⟨RX3, "copyFrom", "(LGunLine$Fleet;)V"⟩
abbrev cX3_writeTo : ByteArray := prog_5_method_7_code
def yX3_writeTo : MethodName := ⟨RX3, "writeTo", "([II)V"⟩
abbrev cX3_readFrom : ByteArray := prog_5_method_8_code
def yX3_readFrom : MethodName := ⟨RX3, "readFrom", "([II)V"⟩
abbrev cX3_scatter : ByteArray := prog_5_method_9_code
def yX3_scatter : MethodName := ⟨RX3, "scatter", "(LGunLine$Draws;I)V"⟩
abbrev cX3_isRowFull : ByteArray := prog_5_method_10_code
def yX3_isRowFull : MethodName := ⟨RX3, "isRowFull", "(II)Z"⟩
abbrev cX3_isHeld : ByteArray := prog_5_method_11_code
def yX3_isHeld : MethodName := ⟨RX3, "isHeld", "(II)Z"⟩
abbrev cX3_isLeewardHeld : ByteArray := prog_5_method_12_code
def yX3_isLeewardHeld : MethodName := ⟨RX3, "isLeewardHeld", "(I)Z"⟩
abbrev cX3_isShadowed : ByteArray := prog_5_method_13_code
def yX3_isShadowed : MethodName := ⟨RX3, "isShadowed", "(I)Z"⟩
abbrev cX3_countBeside : ByteArray := prog_5_method_14_code
def yX3_countBeside : MethodName := ⟨RX3, "countBeside", "(I)I"⟩
abbrev cX3_isBeside : ByteArray := prog_5_method_15_code
def yX3_isBeside : MethodName := ⟨RX3, "isBeside", "(II)Z"⟩
abbrev cX3_believedBack : ByteArray := prog_5_method_16_code
def yX3_believedBack : MethodName := ⟨RX3, "believedBack", "(I)I"⟩
abbrev cX3_speedUp : ByteArray := prog_5_method_17_code
def yX3_speedUp : MethodName := ⟨RX3, "speedUp", "(I)V"⟩
abbrev cX3_slowDown : ByteArray := prog_5_method_18_code
def yX3_slowDown : MethodName := ⟨RX3, "slowDown", "(I)V"⟩
def RX4 : String := "GunLine$Mover"
def TX4 : u_T := fun k => match k with
  | 0 => ("GunLine$Mover", "rules", "LGunLine$RuleBook;", true)
  | 1 => ("GunLine$Mover", "letters", "[I", true)
  | 2 => ("GunLine$Mover", "shadow", "[I", true)
  | _ => ("GunLine$Mover", "order", "[I", true)
def tyX4 : Nat → FieldType := fun k => match k with
  | 0 => .object "GunLine$RuleBook"
  | 1 => .array .int
  | 2 => .array .int
  | _ => .array .int
abbrev wsX40 : List Cond := u_ws RX4 TX4 4
theorem nmX4 : ∀ a, a < 4 → ∀ b, b < 4 → a ≠ b → (TX4 a).2.1 ≠ (TX4 b).2.1 := by decide +kernel
theorem tyX4_ok : ∀ k, k < 4 → parseFieldDescriptor (TX4 k).2.2.1 = some (tyX4 k) := by decide +kernel
abbrev cX4_init : ByteArray := prog_6_method_1_code
def yX4_init : MethodName := ⟨RX4, "<init>", "(LGunLine$RuleBook;)V"⟩
abbrev cX4_passSecond : ByteArray := prog_6_method_2_code
def yX4_passSecond : MethodName := ⟨RX4, "passSecond", "(LGunLine$Course;LGunLine$Fleet;)V"⟩
abbrev cX4_passGustySecond : ByteArray := prog_6_method_3_code
def yX4_passGustySecond : MethodName := ⟨RX4, "passGustySecond", "(LGunLine$Course;LGunLine$Fleet;LGunLine$Draws;I)V"⟩
abbrev cX4_passToGun : ByteArray := prog_6_method_4_code
def yX4_passToGun : MethodName := ⟨RX4, "passToGun", "(LGunLine$Course;LGunLine$Fleet;)V"⟩
abbrev cX4_passHeldSecond : ByteArray := prog_6_method_5_code
def yX4_passHeldSecond : MethodName := ⟨RX4, "passHeldSecond", "(LGunLine$Course;LGunLine$Fleet;I)V"⟩
abbrev cX4_passToGunReleased : ByteArray := prog_6_method_6_code
def yX4_passToGunReleased : MethodName := ⟨RX4, "passToGunReleased", "(LGunLine$Course;LGunLine$Fleet;I)V"⟩
abbrev cX4_look : ByteArray := prog_6_method_7_code
def yX4_look : MethodName := ⟨RX4, "look", "(LGunLine$Fleet;)V"⟩
abbrev cX4_askRules : ByteArray := prog_6_method_8_code
def yX4_askRules : MethodName := ⟨RX4, "askRules", "(LGunLine$Course;LGunLine$Fleet;I)V"⟩
abbrev cX4_drawGusts : ByteArray := prog_6_method_9_code
def yX4_drawGusts : MethodName := ⟨RX4, "drawGusts", "(LGunLine$Fleet;LGunLine$Draws;I)V"⟩
abbrev cX4_moveAll : ByteArray := prog_6_method_10_code
def yX4_moveAll : MethodName := ⟨RX4, "moveAll", "(LGunLine$Course;LGunLine$Fleet;)V"⟩
abbrev cX4_comesNow : ByteArray := prog_6_method_11_code
def yX4_comesNow : MethodName := ⟨RX4, "comesNow", "(II)Z"⟩
abbrev cX4_sail : ByteArray := prog_6_method_12_code
def yX4_sail : MethodName := ⟨RX4, "sail", "(LGunLine$Fleet;I)V"⟩
abbrev cX4_driftAll : ByteArray := prog_6_method_13_code
def yX4_driftAll : MethodName := ⟨RX4, "driftAll", "(LGunLine$Course;LGunLine$Fleet;)V"⟩
abbrev cX4_noteEarly : ByteArray := prog_6_method_14_code
def yX4_noteEarly : MethodName := ⟨RX4, "noteEarly", "(LGunLine$Fleet;)V"⟩
def RX5 : String := "GunLine$Records"
def TX5 : u_T := fun k => match k with
  | 0 => ("GunLine$Records", "seen", "[I", true)
  | 1 => ("GunLine$Records", "least", "[I", true)
  | 2 => ("GunLine$Records", "most", "[I", true)
  | 3 => ("GunLine$Records", "points", "[I", true)
  | 4 => ("GunLine$Records", "pictures", "I", false)
  | _ => ("GunLine$Records", "races", "I", false)
def tyX5 : Nat → FieldType := fun k => match k with
  | 0 => .array .int
  | 1 => .array .int
  | 2 => .array .int
  | 3 => .array .int
  | 4 => .int
  | _ => .int
abbrev wsX50 : List Cond := u_ws RX5 TX5 6
theorem nmX5 : ∀ a, a < 6 → ∀ b, b < 6 → a ≠ b → (TX5 a).2.1 ≠ (TX5 b).2.1 := by decide +kernel
theorem tyX5_ok : ∀ k, k < 6 → parseFieldDescriptor (TX5 k).2.2.1 = some (tyX5 k) := by decide +kernel
abbrev cX5_init : ByteArray := prog_7_method_1_code
def yX5_init : MethodName := ⟨RX5, "<init>", "()V"⟩
abbrev cX5_forget : ByteArray := prog_7_method_2_code
def yX5_forget : MethodName := ⟨RX5, "forget", "()V"⟩
abbrev cX5_canSee : ByteArray := prog_7_method_3_code
def yX5_canSee : MethodName := ⟨RX5, "canSee", "(II)Z"⟩
abbrev cX5_addPicture : ByteArray := prog_7_method_4_code
def yX5_addPicture : MethodName := ⟨RX5, "addPicture", "(III)I"⟩
abbrev cX5_isSeen : ByteArray := prog_7_method_5_code
def yX5_isSeen : MethodName := ⟨RX5, "isSeen", "(II)Z"⟩
abbrev cX5_addRace : ByteArray := prog_7_method_6_code
def yX5_addRace : MethodName := ⟨RX5, "addRace", "(LGunLine$Course;LGunLine$Fleet;)I"⟩
def RX6 : String := "GunLine$RuleBook"
def TX6 : u_T := fun k => match k with
  | 0 => ("GunLine$RuleBook", "codes", "[[I", true)
  | 1 => ("GunLine$RuleBook", "sizes", "[I", true)
  | 2 => ("GunLine$RuleBook", "pile", "[I", true)
  | _ => ("GunLine$RuleBook", "count", "I", false)
def tyX6 : Nat → FieldType := fun k => match k with
  | 0 => .array (.array .int)
  | 1 => .array .int
  | 2 => .array .int
  | _ => .int
abbrev wsX60 : List Cond := u_ws RX6 TX6 4
theorem nmX6 : ∀ a, a < 4 → ∀ b, b < 4 → a ≠ b → (TX6 a).2.1 ≠ (TX6 b).2.1 := by decide +kernel
theorem tyX6_ok : ∀ k, k < 4 → parseFieldDescriptor (TX6 k).2.2.1 = some (tyX6 k) := by decide +kernel
abbrev cX6_init : ByteArray := prog_8_method_1_code
def yX6_init : MethodName := ⟨RX6, "<init>", "()V"⟩
abbrev cX6_has : ByteArray := prog_8_method_2_code
def yX6_has : MethodName := ⟨RX6, "has", "(I)Z"⟩
abbrev cX6_add : ByteArray := prog_8_method_3_code
def yX6_add : MethodName := ⟨RX6, "add", "([II)I"⟩
abbrev cX6_worthOf : ByteArray := prog_8_method_4_code
def yX6_worthOf : MethodName := ⟨RX6, "worthOf", "(I[I)I"⟩
abbrev cX6_letterAt : ByteArray := prog_8_method_5_code
def yX6_letterAt : MethodName := ⟨RX6, "letterAt", "([II)I"⟩
abbrev cX6_join : ByteArray := prog_8_method_6_code
def yX6_join : MethodName := ⟨RX6, "join", "(III)J"⟩
abbrev cX6_bounded : ByteArray := prog_8_method_7_code
def yX6_bounded : MethodName := ⟨RX6, "bounded", "(J)I"⟩
def RX7 : String := "GunLine$RuleReader"
def TX7 : u_T := fun k => match k with
  | 0 => ("GunLine$RuleReader", "tape", "LGunLine$Tape;", true)
  | 1 => ("GunLine$RuleReader", "code", "[I", true)
  | _ => ("GunLine$RuleReader", "size", "I", false)
def tyX7 : Nat → FieldType := fun k => match k with
  | 0 => .object "GunLine$Tape"
  | 1 => .array .int
  | _ => .int
abbrev wsX70 : List Cond := u_ws RX7 TX7 3
theorem nmX7 : ∀ a, a < 3 → ∀ b, b < 3 → a ≠ b → (TX7 a).2.1 ≠ (TX7 b).2.1 := by decide +kernel
theorem tyX7_ok : ∀ k, k < 3 → parseFieldDescriptor (TX7 k).2.2.1 = some (tyX7 k) := by decide +kernel
abbrev cX7_init : ByteArray := prog_9_method_1_code
def yX7_init : MethodName := ⟨RX7, "<init>", "(LGunLine$Tape;)V"⟩
abbrev cX7_findFault : ByteArray := prog_9_method_2_code
def yX7_findFault : MethodName := ⟨RX7, "findFault", "()I"⟩
abbrev cX7_readClause : ByteArray := prog_9_method_3_code
def yX7_readClause : MethodName := ⟨RX7, "readClause", "()Z"⟩
abbrev cX7_readAnswer : ByteArray := prog_9_method_4_code
def yX7_readAnswer : MethodName := ⟨RX7, "readAnswer", "()Z"⟩
abbrev cX7_readCondition : ByteArray := prog_9_method_5_code
def yX7_readCondition : MethodName := ⟨RX7, "readCondition", "(IZ)Z"⟩
abbrev cX7_readTruth : ByteArray := prog_9_method_6_code
def yX7_readTruth : MethodName := ⟨RX7, "readTruth", "(IZ)Z"⟩
abbrev cX7_readUnit : ByteArray := prog_9_method_7_code
def yX7_readUnit : MethodName := ⟨RX7, "readUnit", "(IZ)Z"⟩
abbrev cX7_comparisonOf : ByteArray := prog_9_method_8_code
def yX7_comparisonOf : MethodName := ⟨RX7, "comparisonOf", "(I)I"⟩
abbrev cX7_readSum : ByteArray := prog_9_method_9_code
def yX7_readSum : MethodName := ⟨RX7, "readSum", "(I)Z"⟩
abbrev cX7_readTerm : ByteArray := prog_9_method_10_code
def yX7_readTerm : MethodName := ⟨RX7, "readTerm", "(I)Z"⟩
abbrev cX7_readAtom : ByteArray := prog_9_method_11_code
def yX7_readAtom : MethodName := ⟨RX7, "readAtom", "(I)Z"⟩
abbrev cX7_emit : ByteArray := prog_9_method_12_code
def yX7_emit : MethodName := ⟨RX7, "emit", "(I)V"⟩
def RX8 : String := "GunLine$Tape"
def TX8 : u_T := fun k => match k with
  | 0 => ("GunLine$Tape", "bytes", "[I", true)
  | 1 => ("GunLine$Tape", "length", "I", false)
  | _ => ("GunLine$Tape", "at", "I", false)
def tyX8 : Nat → FieldType := fun k => match k with
  | 0 => .array .int
  | 1 => .int
  | _ => .int
abbrev wsX80 : List Cond := u_ws RX8 TX8 3
theorem nmX8 : ∀ a, a < 3 → ∀ b, b < 3 → a ≠ b → (TX8 a).2.1 ≠ (TX8 b).2.1 := by decide +kernel
theorem tyX8_ok : ∀ k, k < 3 → parseFieldDescriptor (TX8 k).2.2.1 = some (tyX8 k) := by decide +kernel
abbrev cX8_init : ByteArray := prog_10_method_1_code
def yX8_init : MethodName := ⟨RX8, "<init>", "()V"⟩
abbrev cX8_bytesOf : ByteArray := prog_10_method_2_code
def yX8_bytesOf : MethodName := ⟨RX8, "bytesOf", "(I)I"⟩
abbrev cX8_append : ByteArray := prog_10_method_3_code
def yX8_append : MethodName := ⟨RX8, "append", "(I)V"⟩
abbrev cX8_rewind : ByteArray := prog_10_method_4_code
def yX8_rewind : MethodName := ⟨RX8, "rewind", "()V"⟩
abbrev cX8_rawSign : ByteArray := prog_10_method_5_code
def yX8_rawSign : MethodName := ⟨RX8, "rawSign", "()I"⟩
abbrev cX8_nextSign : ByteArray := prog_10_method_6_code
def yX8_nextSign : MethodName := ⟨RX8, "nextSign", "()I"⟩
abbrev cX8_take : ByteArray := prog_10_method_7_code
def yX8_take : MethodName := ⟨RX8, "take", "(I)Z"⟩
abbrev cX8_takeNumber : ByteArray := prog_10_method_8_code
def yX8_takeNumber : MethodName := ⟨RX8, "takeNumber", "(I)I"⟩
abbrev cX8_isDigit : ByteArray := prog_10_method_9_code
def yX8_isDigit : MethodName := ⟨RX8, "isDigit", "(I)Z"⟩
abbrev cX8_indexIn : ByteArray := prog_10_method_10_code
def yX8_indexIn : MethodName := ⟨RX8, "indexIn", "(Ljava/lang/String;I)I"⟩
def RX9 : String := "GunLine$Thirds"
def TX9 : u_T := fun k => match k with
  | 0 => ("GunLine$Thirds", "choice", "[I", true)
  | 1 => ("GunLine$Thirds", "crowd", "[I", true)
  | 2 => ("GunLine$Thirds", "worth", "[I", true)
  | 3 => ("GunLine$Thirds", "players", "I", false)
  | _ => ("GunLine$Thirds", "rowCount", "I", false)
def tyX9 : Nat → FieldType := fun k => match k with
  | 0 => .array .int
  | 1 => .array .int
  | 2 => .array .int
  | 3 => .int
  | _ => .int
abbrev wsX90 : List Cond := u_ws RX9 TX9 5
theorem nmX9 : ∀ a, a < 5 → ∀ b, b < 5 → a ≠ b → (TX9 a).2.1 ≠ (TX9 b).2.1 := by decide +kernel
theorem tyX9_ok : ∀ k, k < 5 → parseFieldDescriptor (TX9 k).2.2.1 = some (tyX9 k) := by decide +kernel
abbrev cX9_init : ByteArray := prog_11_method_1_code
def yX9_init : MethodName := ⟨RX9, "<init>", "()V"⟩
abbrev cX9_set : ByteArray := prog_11_method_2_code
def yX9_set : MethodName := ⟨RX9, "set", "(III)V"⟩
abbrev cX9_countRests : ByteArray := prog_11_method_3_code
def yX9_countRests : MethodName := ⟨RX9, "countRests", "()I"⟩
abbrev cX9_findRest : ByteArray := prog_11_method_4_code
def yX9_findRest : MethodName := ⟨RX9, "findRest", "(I)I"⟩
abbrev cX9_fullestOfFirstRest : ByteArray := prog_11_method_5_code
def yX9_fullestOfFirstRest : MethodName := ⟨RX9, "fullestOfFirstRest", "()I"⟩
abbrev cX9_isRest : ByteArray := prog_11_method_6_code
def yX9_isRest : MethodName := ⟨RX9, "isRest", "(I)Z"⟩
abbrev cX9_spell : ByteArray := prog_11_method_7_code
def yX9_spell : MethodName := ⟨RX9, "spell", "(I)V"⟩
abbrev cX9_digits : ByteArray := prog_11_method_8_code
def yX9_digits : MethodName := ⟨RX9, "digits", "()I"⟩
def RX10 : String := "GunLine$WaterReader"
def TX10 : u_T := fun k => match k with
  | 0 => ("GunLine$WaterReader", "tape", "LGunLine$Tape;", true)
  | 1 => ("GunLine$WaterReader", "items", "[I", true)
  | 2 => ("GunLine$WaterReader", "hasLine", "Z", false)
  | 3 => ("GunLine$WaterReader", "course", "LGunLine$Course;", true)
  | _ => ("GunLine$WaterReader", "fleet", "LGunLine$Fleet;", true)
def tyX10 : Nat → FieldType := fun k => match k with
  | 0 => .object "GunLine$Tape"
  | 1 => .array .int
  | 2 => .boolean
  | 3 => .object "GunLine$Course"
  | _ => .object "GunLine$Fleet"
abbrev wsX100 : List Cond := u_ws RX10 TX10 5
theorem nmX10 : ∀ a, a < 5 → ∀ b, b < 5 → a ≠ b → (TX10 a).2.1 ≠ (TX10 b).2.1 := by decide +kernel
theorem tyX10_ok : ∀ k, k < 5 → parseFieldDescriptor (TX10 k).2.2.1 = some (tyX10 k) := by decide +kernel
abbrev cX10_init : ByteArray := prog_12_method_1_code
def yX10_init : MethodName := ⟨RX10, "<init>", "(LGunLine$Tape;)V"⟩
abbrev cX10_findFault : ByteArray := prog_12_method_2_code
def yX10_findFault : MethodName := ⟨RX10, "findFault", "()I"⟩
abbrev cX10_readClause : ByteArray := prog_12_method_3_code
def yX10_readClause : MethodName := ⟨RX10, "readClause", "()Z"⟩
abbrev cX10_readLine : ByteArray := prog_12_method_4_code
def yX10_readLine : MethodName := ⟨RX10, "readLine", "()Z"⟩
abbrev cX10_readBoat : ByteArray := prog_12_method_5_code
def yX10_readBoat : MethodName := ⟨RX10, "readBoat", "()Z"⟩
abbrev cX10_readItems : ByteArray := prog_12_method_6_code
def yX10_readItems : MethodName := ⟨RX10, "readItems", "(Ljava/lang/String;[I[I[I)Z"⟩
abbrev cX10_fits : ByteArray := prog_12_method_7_code
def yX10_fits : MethodName := ⟨RX10, "fits", "()Z"⟩
def RX11 : String := "GunLine"
def TX11 : u_T := fun k => match k with
  | 0 => ("GunLine", "tape", "LGunLine$Tape;", true)
  | 1 => ("GunLine", "rules", "LGunLine$RuleBook;", true)
  | 2 => ("GunLine", "waterReader", "LGunLine$WaterReader;", true)
  | 3 => ("GunLine", "ruleReader", "LGunLine$RuleReader;", true)
  | 4 => ("GunLine", "course", "LGunLine$Course;", true)
  | 5 => ("GunLine", "trialCourse", "LGunLine$Course;", true)
  | 6 => ("GunLine", "told", "LGunLine$Fleet;", true)
  | 7 => ("GunLine", "fleet", "LGunLine$Fleet;", true)
  | 8 => ("GunLine", "trial", "LGunLine$Fleet;", true)
  | 9 => ("GunLine", "holding", "LGunLine$Fleet;", true)
  | 10 => ("GunLine", "kept", "LGunLine$Fleet;", true)
  | 11 => ("GunLine", "mover", "LGunLine$Mover;", true)
  | 12 => ("GunLine", "draws", "LGunLine$Draws;", true)
  | 13 => ("GunLine", "acts", "LGunLine$Acts;", true)
  | 14 => ("GunLine", "thirds", "LGunLine$Thirds;", true)
  | 15 => ("GunLine", "records", "LGunLine$Records;", true)
  | 16 => ("GunLine", "hasImage", "Z", false)
  | _ => ("GunLine", "gustNow", "I", false)
def tyX11 : Nat → FieldType := fun k => match k with
  | 0 => .object "GunLine$Tape"
  | 1 => .object "GunLine$RuleBook"
  | 2 => .object "GunLine$WaterReader"
  | 3 => .object "GunLine$RuleReader"
  | 4 => .object "GunLine$Course"
  | 5 => .object "GunLine$Course"
  | 6 => .object "GunLine$Fleet"
  | 7 => .object "GunLine$Fleet"
  | 8 => .object "GunLine$Fleet"
  | 9 => .object "GunLine$Fleet"
  | 10 => .object "GunLine$Fleet"
  | 11 => .object "GunLine$Mover"
  | 12 => .object "GunLine$Draws"
  | 13 => .object "GunLine$Acts"
  | 14 => .object "GunLine$Thirds"
  | 15 => .object "GunLine$Records"
  | 16 => .boolean
  | _ => .int
abbrev wsX110 : List Cond := u_ws RX11 TX11 18
theorem nmX11 : ∀ a, a < 18 → ∀ b, b < 18 → a ≠ b → (TX11 a).2.1 ≠ (TX11 b).2.1 := by decide +kernel
theorem tyX11_ok : ∀ k, k < 18 → parseFieldDescriptor (TX11 k).2.2.1 = some (tyX11 k) := by decide +kernel
abbrev cX11_init : ByteArray := prog_1_method_1_code
def yX11_init : MethodName := ⟨RX11, "<init>", "()V"⟩
abbrev cX11_feed : ByteArray := prog_1_method_2_code
def yX11_feed : MethodName := ⟨RX11, "feed", "(IIIII)I"⟩
abbrev cX11_end : ByteArray := prog_1_method_3_code
def yX11_end : MethodName := ⟨RX11, "end", "(I)Z"⟩
abbrev cX11_fault : ByteArray := prog_1_method_4_code
def yX11_fault : MethodName := ⟨RX11, "fault", "(I)I"⟩
abbrev cX11_text : ByteArray := prog_1_method_5_code
def yX11_text : MethodName := ⟨RX11, "text", "(I)I"⟩
abbrev cX11_takeWater : ByteArray := prog_1_method_6_code
def yX11_takeWater : MethodName := ⟨RX11, "takeWater", "()I"⟩
abbrev cX11_takeRule : ByteArray := prog_1_method_7_code
def yX11_takeRule : MethodName := ⟨RX11, "takeRule", "()I"⟩
abbrev cX11_boat : ByteArray := prog_1_method_8_code
def yX11_boat : MethodName := ⟨RX11, "boat", "(II)I"⟩
abbrev cX11_line : ByteArray := prog_1_method_9_code
def yX11_line : MethodName := ⟨RX11, "line", "(I)I"⟩
abbrev cX11_rule : ByteArray := prog_1_method_10_code
def yX11_rule : MethodName := ⟨RX11, "rule", "(II)I"⟩
abbrev cX11_mark : ByteArray := prog_1_method_11_code
def yX11_mark : MethodName := ⟨RX11, "mark", "(I)I"⟩
abbrev cX11_speed : ByteArray := prog_1_method_12_code
def yX11_speed : MethodName := ⟨RX11, "speed", "(II)I"⟩
abbrev cX11_steer : ByteArray := prog_1_method_13_code
def yX11_steer : MethodName := ⟨RX11, "steer", "(II)I"⟩
abbrev cX11_gust : ByteArray := prog_1_method_14_code
def yX11_gust : MethodName := ⟨RX11, "gust", "(I)Z"⟩
abbrev cX11_go : ByteArray := prog_1_method_15_code
def yX11_go : MethodName := ⟨RX11, "go", "(I)I"⟩
abbrev cX11_blow : ByteArray := prog_1_method_16_code
def yX11_blow : MethodName := ⟨RX11, "blow", "(IJ)I"⟩
abbrev cX11_canPass : ByteArray := prog_1_method_17_code
def yX11_canPass : MethodName := ⟨RX11, "canPass", "(I)Z"⟩
abbrev cX11_undo : ByteArray := prog_1_method_18_code
def yX11_undo : MethodName := ⟨RX11, "undo", "()I"⟩
abbrev cX11_ahead : ByteArray := prog_1_method_19_code
def yX11_ahead : MethodName := ⟨RX11, "ahead", "(II)I"⟩
abbrev cX11_where : ByteArray := prog_1_method_20_code
def yX11_where : MethodName := ⟨RX11, "where", "(II)I"⟩
abbrev cX11_near : ByteArray := prog_1_method_21_code
def yX11_near : MethodName := ⟨RX11, "near", "(II)I"⟩
abbrev cX11_hold : ByteArray := prog_1_method_22_code
def yX11_hold : MethodName := ⟨RX11, "hold", "(II)I"⟩
abbrev cX11_row : ByteArray := prog_1_method_23_code
def yX11_row : MethodName := ⟨RX11, "row", "(II)I"⟩
abbrev cX11_scoreFrom : ByteArray := prog_1_method_24_code
def yX11_scoreFrom : MethodName := ⟨RX11, "scoreFrom", "(III)I"⟩
abbrev cX11_tides : ByteArray := prog_1_method_25_code
def yX11_tides : MethodName := ⟨RX11, "tides", "()I"⟩
abbrev cX11_sag : ByteArray := prog_1_method_26_code
def yX11_sag : MethodName := ⟨RX11, "sag", "(I)I"⟩
abbrev cX11_greatestCommon : ByteArray := prog_1_method_27_code
def yX11_greatestCommon : MethodName := ⟨RX11, "greatestCommon", "(II)I"⟩
abbrev cX11_heap : ByteArray := prog_1_method_28_code
def yX11_heap : MethodName := ⟨RX11, "heap", "(I)I"⟩
abbrev cX11_boatsIn : ByteArray := prog_1_method_29_code
def yX11_boatsIn : MethodName := ⟨RX11, "boatsIn", "(I)I"⟩
abbrev cX11_hole : ByteArray := prog_1_method_30_code
def yX11_hole : MethodName := ⟨RX11, "hole", "(I)I"⟩
abbrev cX11_keeps : ByteArray := prog_1_method_31_code
def yX11_keeps : MethodName := ⟨RX11, "keeps", "(I)I"⟩
abbrev cX11_which : ByteArray := prog_1_method_32_code
def yX11_which : MethodName := ⟨RX11, "which", "(I)I"⟩
abbrev cX11_isAmong : ByteArray := prog_1_method_33_code
def yX11_isAmong : MethodName := ⟨RX11, "isAmong", "(II)Z"⟩
abbrev cX11_rests : ByteArray := prog_1_method_34_code
def yX11_rests : MethodName := ⟨RX11, "rests", "(I)I"⟩
abbrev cX11_spread : ByteArray := prog_1_method_35_code
def yX11_spread : MethodName := ⟨RX11, "spread", "(I)I"⟩
abbrev cX11_duel : ByteArray := prog_1_method_36_code
def yX11_duel : MethodName := ⟨RX11, "duel", "(II)I"⟩
abbrev cX11_duelOf : ByteArray := prog_1_method_37_code
def yX11_duelOf : MethodName := ⟨RX11, "duelOf", "(II)I"⟩
abbrev cX11_reply : ByteArray := prog_1_method_38_code
def yX11_reply : MethodName := ⟨RX11, "reply", "(I)I"⟩
abbrev cX11_strong : ByteArray := prog_1_method_39_code
def yX11_strong : MethodName := ⟨RX11, "strong", "()I"⟩
abbrev cX11_picture : ByteArray := prog_1_method_40_code
def yX11_picture : MethodName := ⟨RX11, "picture", "(III)I"⟩
abbrev cX11_was : ByteArray := prog_1_method_41_code
def yX11_was : MethodName := ⟨RX11, "was", "(I)I"⟩
abbrev cX11_race : ByteArray := prog_1_method_42_code
def yX11_race : MethodName := ⟨RX11, "race", "()I"⟩
abbrev cX11_points : ByteArray := prog_1_method_43_code
def yX11_points : MethodName := ⟨RX11, "points", "(I)I"⟩
abbrev cX11_champion : ByteArray := prog_1_method_44_code
def yX11_champion : MethodName := ⟨RX11, "champion", "()I"⟩
abbrev cX11_season : ByteArray := prog_1_method_45_code
def yX11_season : MethodName := ⟨RX11, "season", "(IJ)I"⟩
abbrev cX11_flag : ByteArray := prog_1_method_46_code
def yX11_flag : MethodName := ⟨RX11, "flag", "(I)I"⟩
abbrev cX11_image : ByteArray := prog_1_method_47_code
def yX11_image : MethodName := ⟨RX11, "image", "()I"⟩
abbrev cX11_back : ByteArray := prog_1_method_48_code
def yX11_back : MethodName := ⟨RX11, "back", "()I"⟩
abbrev cX11_count : ByteArray := prog_1_method_49_code
def yX11_count : MethodName := ⟨RX11, "count", "(I)I"⟩
abbrev cX11_hasWater : ByteArray := prog_1_method_50_code
def yX11_hasWater : MethodName := ⟨RX11, "hasWater", "()Z"⟩
abbrev cX11_isBoat : ByteArray := prog_1_method_51_code
def yX11_isBoat : MethodName := ⟨RX11, "isBoat", "(I)Z"⟩
abbrev cX11_isChoice : ByteArray := prog_1_method_52_code
def yX11_isChoice : MethodName := ⟨RX11, "isChoice", "(I)Z"⟩
def RX12 : String := "GunLineModel"
def TX12 : u_T := fun k => match k with
  | 0 => ("GunLineModel", "thrown", "I", false)
  | 1 => ("GunLineModel", "tape", "[I", true)
  | 2 => ("GunLineModel", "size", "I", false)
  | 3 => ("GunLineModel", "at", "I", false)
  | 4 => ("GunLineModel", "wrong", "I", false)
  | 5 => ("GunLineModel", "deep", "I", false)
  | 6 => ("GunLineModel", "code", "[I", true)
  | 7 => ("GunLineModel", "value", "[I", true)
  | 8 => ("GunLineModel", "codes", "[I", true)
  | 9 => ("GunLineModel", "clauses", "[I", true)
  | 10 => ("GunLineModel", "testFrom", "[I", true)
  | 11 => ("GunLineModel", "sumFrom", "[I", true)
  | 12 => ("GunLineModel", "sumTo", "[I", true)
  | 13 => ("GunLineModel", "laws", "I", false)
  | 14 => ("GunLineModel", "text", "I", false)
  | 15 => ("GunLineModel", "letters", "[I", true)
  | 16 => ("GunLineModel", "stack", "[I", true)
  | 17 => ("GunLineModel", "readLine", "[I", true)
  | 18 => ("GunLineModel", "readBoat", "[I", true)
  | 19 => ("GunLineModel", "readBoats", "I", false)
  | 20 => ("GunLineModel", "line", "[I", true)
  | 21 => ("GunLineModel", "told", "[I", true)
  | 22 => ("GunLineModel", "boats", "I", false)
  | 23 => ("GunLineModel", "now", "[I", true)
  | 24 => ("GunLineModel", "gust", "I", false)
  | 25 => ("GunLineModel", "holder", "I", false)
  | 26 => ("GunLineModel", "holdsFor", "I", false)
  | 27 => ("GunLineModel", "shadowed", "[Z", true)
  | 28 => ("GunLineModel", "wasBack", "[I", true)
  | 29 => ("GunLineModel", "wants", "[I", true)
  | 30 => ("GunLineModel", "kept", "[I", true)
  | 31 => ("GunLineModel", "acts", "I", false)
  | 32 => ("GunLineModel", "draws", "J", false)
  | 33 => ("GunLineModel", "aside", "[I", true)
  | 34 => ("GunLineModel", "chooses", "[I", true)
  | 35 => ("GunLineModel", "lineWas", "[I", true)
  | 36 => ("GunLineModel", "toldWas", "[I", true)
  | 37 => ("GunLineModel", "pictureOf", "[I", true)
  | 38 => ("GunLineModel", "pictureFrom", "[I", true)
  | 39 => ("GunLineModel", "pictureTo", "[I", true)
  | 40 => ("GunLineModel", "pictures", "I", false)
  | 41 => ("GunLineModel", "book", "[I", true)
  | 42 => ("GunLineModel", "races", "I", false)
  | 43 => ("GunLineModel", "image", "[I", true)
  | _ => ("GunLineModel", "hasImage", "Z", false)
def tyX12 : Nat → FieldType := fun k => match k with
  | 0 => .int
  | 1 => .array .int
  | 2 => .int
  | 3 => .int
  | 4 => .int
  | 5 => .int
  | 6 => .array .int
  | 7 => .array .int
  | 8 => .array .int
  | 9 => .array .int
  | 10 => .array .int
  | 11 => .array .int
  | 12 => .array .int
  | 13 => .int
  | 14 => .int
  | 15 => .array .int
  | 16 => .array .int
  | 17 => .array .int
  | 18 => .array .int
  | 19 => .int
  | 20 => .array .int
  | 21 => .array .int
  | 22 => .int
  | 23 => .array .int
  | 24 => .int
  | 25 => .int
  | 26 => .int
  | 27 => .array .boolean
  | 28 => .array .int
  | 29 => .array .int
  | 30 => .array .int
  | 31 => .int
  | 32 => .long
  | 33 => .array .int
  | 34 => .array .int
  | 35 => .array .int
  | 36 => .array .int
  | 37 => .array .int
  | 38 => .array .int
  | 39 => .array .int
  | 40 => .int
  | 41 => .array .int
  | 42 => .int
  | 43 => .array .int
  | _ => .boolean
abbrev wsX120 : List Cond := u_ws RX12 TX12 45
theorem nmX12 : ∀ a, a < 45 → ∀ b, b < 45 → a ≠ b → (TX12 a).2.1 ≠ (TX12 b).2.1 := by decide +kernel
theorem tyX12_ok : ∀ k, k < 45 → parseFieldDescriptor (TX12 k).2.2.1 = some (tyX12 k) := by decide +kernel
abbrev cX12_in : ByteArray := prog_14_method_1_code
def yX12_in : MethodName := ⟨RX12, "in", "(III)Z"⟩
abbrev cX12_has : ByteArray := prog_14_method_2_code
def yX12_has : MethodName := ⟨RX12, "has", "(II)Z"⟩
abbrev cX12_init : ByteArray := prog_14_method_3_code
def yX12_init : MethodName := ⟨RX12, "<init>", "()V"⟩
abbrev cX12_thrown : ByteArray := prog_14_method_4_code
def yX12_thrown : MethodName := ⟨RX12, "thrown", "()I"⟩
abbrev cX12_byteOf : ByteArray := prog_14_method_5_code
def yX12_byteOf : MethodName := ⟨RX12, "byteOf", "(IIIIII)I"⟩
abbrev cX12_feed : ByteArray := prog_14_method_6_code
def yX12_feed : MethodName := ⟨RX12, "feed", "(IIIII)I"⟩
abbrev cX12_end : ByteArray := prog_14_method_7_code
def yX12_end : MethodName := ⟨RX12, "end", "(I)Z"⟩
abbrev cX12_here : ByteArray := prog_14_method_8_code
def yX12_here : MethodName := ⟨RX12, "here", "()I"⟩
abbrev cX12_look : ByteArray := prog_14_method_9_code
def yX12_look : MethodName := ⟨RX12, "look", "()I"⟩
abbrev cX12_bad : ByteArray := prog_14_method_10_code
def yX12_bad : MethodName := ⟨RX12, "bad", "()V"⟩
abbrev cX12_isDigit : ByteArray := prog_14_method_11_code
def yX12_isDigit : MethodName := ⟨RX12, "isDigit", "(I)Z"⟩
abbrev cX12_put : ByteArray := prog_14_method_12_code
def yX12_put : MethodName := ⟨RX12, "put", "(II)V"⟩
abbrev cX12_letterOf : ByteArray := prog_14_method_13_code
def yX12_letterOf : MethodName := ⟨RX12, "letterOf", "(I)I"⟩
abbrev cX12_opens : ByteArray := prog_14_method_14_code
def yX12_opens : MethodName := ⟨RX12, "opens", "()V"⟩
abbrev cX12_closes : ByteArray := prog_14_method_15_code
def yX12_closes : MethodName := ⟨RX12, "closes", "(I)V"⟩
abbrev cX12_plainNumber : ByteArray := prog_14_method_16_code
def yX12_plainNumber : MethodName := ⟨RX12, "plainNumber", "()I"⟩
abbrev cX12_atom : ByteArray := prog_14_method_17_code
def yX12_atom : MethodName := ⟨RX12, "atom", "()V"⟩
abbrev cX12_term : ByteArray := prog_14_method_18_code
def yX12_term : MethodName := ⟨RX12, "term", "()V"⟩
abbrev cX12_sum : ByteArray := prog_14_method_19_code
def yX12_sum : MethodName := ⟨RX12, "sum", "()V"⟩
abbrev cX12_isSign : ByteArray := prog_14_method_20_code
def yX12_isSign : MethodName := ⟨RX12, "isSign", "(I)Z"⟩
abbrev cX12_compare : ByteArray := prog_14_method_21_code
def yX12_compare : MethodName := ⟨RX12, "compare", "()V"⟩
abbrev cX12_unit : ByteArray := prog_14_method_22_code
def yX12_unit : MethodName := ⟨RX12, "unit", "()V"⟩
abbrev cX12_goOnAnd : ByteArray := prog_14_method_23_code
def yX12_goOnAnd : MethodName := ⟨RX12, "goOnAnd", "()V"⟩
abbrev cX12_goOnOr : ByteArray := prog_14_method_24_code
def yX12_goOnOr : MethodName := ⟨RX12, "goOnOr", "()V"⟩
abbrev cX12_condition : ByteArray := prog_14_method_25_code
def yX12_condition : MethodName := ⟨RX12, "condition", "()V"⟩
abbrev cX12_clause : ByteArray := prog_14_method_26_code
def yX12_clause : MethodName := ⟨RX12, "clause", "()V"⟩
abbrev cX12_open : ByteArray := prog_14_method_27_code
def yX12_open : MethodName := ⟨RX12, "open", "(I)V"⟩
abbrev cX12_atEnd : ByteArray := prog_14_method_28_code
def yX12_atEnd : MethodName := ⟨RX12, "atEnd", "()I"⟩
abbrev cX12_readLaw : ByteArray := prog_14_method_29_code
def yX12_readLaw : MethodName := ⟨RX12, "readLaw", "(I)I"⟩
abbrev cX12_bounded : ByteArray := prog_14_method_30_code
def yX12_bounded : MethodName := ⟨RX12, "bounded", "(J)I"⟩
abbrev cX12_worked : ByteArray := prog_14_method_31_code
def yX12_worked : MethodName := ⟨RX12, "worked", "(IJJ)I"⟩
abbrev cX12_workOut : ByteArray := prog_14_method_32_code
def yX12_workOut : MethodName := ⟨RX12, "workOut", "(III)I"⟩
abbrev cX12_worthOf : ByteArray := prog_14_method_33_code
def yX12_worthOf : MethodName := ⟨RX12, "worthOf", "(I)I"⟩
abbrev cX12_number : ByteArray := prog_14_method_34_code
def yX12_number : MethodName := ⟨RX12, "number", "(II)I"⟩
abbrev cX12_itemOf : ByteArray := prog_14_method_35_code
def yX12_itemOf : MethodName := ⟨RX12, "itemOf", "(II)I"⟩
abbrev cX12_lowest : ByteArray := prog_14_method_36_code
def yX12_lowest : MethodName := ⟨RX12, "lowest", "(II)I"⟩
abbrev cX12_highest : ByteArray := prog_14_method_37_code
def yX12_highest : MethodName := ⟨RX12, "highest", "(II)I"⟩
abbrev cX12_usual : ByteArray := prog_14_method_38_code
def yX12_usual : MethodName := ⟨RX12, "usual", "(II)I"⟩
abbrev cX12_items : ByteArray := prog_14_method_39_code
def yX12_items : MethodName := ⟨RX12, "items", "(I[III)V"⟩
abbrev cX12_isWhole : ByteArray := prog_14_method_40_code
def yX12_isWhole : MethodName := ⟨RX12, "isWhole", "(Z)Z"⟩
abbrev cX12_readWater : ByteArray := prog_14_method_41_code
def yX12_readWater : MethodName := ⟨RX12, "readWater", "()I"⟩
abbrev cX12_fault : ByteArray := prog_14_method_42_code
def yX12_fault : MethodName := ⟨RX12, "fault", "(I)I"⟩
abbrev cX12_takeWater : ByteArray := prog_14_method_43_code
def yX12_takeWater : MethodName := ⟨RX12, "takeWater", "()I"⟩
abbrev cX12_begin : ByteArray := prog_14_method_44_code
def yX12_begin : MethodName := ⟨RX12, "begin", "()V"⟩
abbrev cX12_text : ByteArray := prog_14_method_45_code
def yX12_text : MethodName := ⟨RX12, "text", "(I)I"⟩
abbrev cX12_of : ByteArray := prog_14_method_46_code
def yX12_of : MethodName := ⟨RX12, "of", "(II)I"⟩
abbrev cX12_put_ : ByteArray := prog_14_method_47_code
def yX12_put_ : MethodName := ⟨RX12, "put", "(III)V"⟩
abbrev cX12_isBoat : ByteArray := prog_14_method_48_code
def yX12_isBoat : MethodName := ⟨RX12, "isBoat", "(I)Z"⟩
abbrev cX12_most : ByteArray := prog_14_method_49_code
def yX12_most : MethodName := ⟨RX12, "most", "(I)I"⟩
abbrev cX12_leftSeconds : ByteArray := prog_14_method_50_code
def yX12_leftSeconds : MethodName := ⟨RX12, "leftSeconds", "()I"⟩
abbrev cX12_believed : ByteArray := prog_14_method_51_code
def yX12_believed : MethodName := ⟨RX12, "believed", "(I)I"⟩
abbrev cX12_isShadowed : ByteArray := prog_14_method_52_code
def yX12_isShadowed : MethodName := ⟨RX12, "isShadowed", "(I)Z"⟩
abbrev cX12_isHeld : ByteArray := prog_14_method_53_code
def yX12_isHeld : MethodName := ⟨RX12, "isHeld", "(II)Z"⟩
abbrev cX12_isLeewardHeld : ByteArray := prog_14_method_54_code
def yX12_isLeewardHeld : MethodName := ⟨RX12, "isLeewardHeld", "(I)Z"⟩
abbrev cX12_statusBy : ByteArray := prog_14_method_55_code
def yX12_statusBy : MethodName := ⟨RX12, "statusBy", "(II)I"⟩
abbrev cX12_scoreBy : ByteArray := prog_14_method_56_code
def yX12_scoreBy : MethodName := ⟨RX12, "scoreBy", "(II)I"⟩
abbrev cX12_scoreOf : ByteArray := prog_14_method_57_code
def yX12_scoreOf : MethodName := ⟨RX12, "scoreOf", "(I)I"⟩
abbrev cX12_placeBy : ByteArray := prog_14_method_58_code
def yX12_placeBy : MethodName := ⟨RX12, "placeBy", "(II)I"⟩
abbrev cX12_placeOf : ByteArray := prog_14_method_59_code
def yX12_placeOf : MethodName := ⟨RX12, "placeOf", "(I)I"⟩
abbrev cX12_boat : ByteArray := prog_14_method_60_code
def yX12_boat : MethodName := ⟨RX12, "boat", "(II)I"⟩
abbrev cX12_line : ByteArray := prog_14_method_61_code
def yX12_line : MethodName := ⟨RX12, "line", "(I)I"⟩
abbrev cX12_faster : ByteArray := prog_14_method_62_code
def yX12_faster : MethodName := ⟨RX12, "faster", "(II)V"⟩
abbrev cX12_wantsOf : ByteArray := prog_14_method_63_code
def yX12_wantsOf : MethodName := ⟨RX12, "wantsOf", "(I)I"⟩
abbrev cX12_speedAll : ByteArray := prog_14_method_64_code
def yX12_speedAll : MethodName := ⟨RX12, "speedAll", "()V"⟩
abbrev cX12_goOne : ByteArray := prog_14_method_65_code
def yX12_goOne : MethodName := ⟨RX12, "goOne", "(I)V"⟩
abbrev cX12_goAll : ByteArray := prog_14_method_66_code
def yX12_goAll : MethodName := ⟨RX12, "goAll", "()V"⟩
abbrev cX12_drift : ByteArray := prog_14_method_67_code
def yX12_drift : MethodName := ⟨RX12, "drift", "()V"⟩
abbrev cX12_pass : ByteArray := prog_14_method_68_code
def yX12_pass : MethodName := ⟨RX12, "pass", "()V"⟩
abbrev cX12_keep : ByteArray := prog_14_method_69_code
def yX12_keep : MethodName := ⟨RX12, "keep", "()I"⟩
abbrev cX12_rule : ByteArray := prog_14_method_70_code
def yX12_rule : MethodName := ⟨RX12, "rule", "(II)I"⟩
abbrev cX12_mark : ByteArray := prog_14_method_71_code
def yX12_mark : MethodName := ⟨RX12, "mark", "(I)I"⟩
abbrev cX12_speed : ByteArray := prog_14_method_72_code
def yX12_speed : MethodName := ⟨RX12, "speed", "(II)I"⟩
abbrev cX12_steer : ByteArray := prog_14_method_73_code
def yX12_steer : MethodName := ⟨RX12, "steer", "(II)I"⟩
abbrev cX12_gust : ByteArray := prog_14_method_74_code
def yX12_gust : MethodName := ⟨RX12, "gust", "(I)Z"⟩
abbrev cX12_areSeconds : ByteArray := prog_14_method_75_code
def yX12_areSeconds : MethodName := ⟨RX12, "areSeconds", "(I)Z"⟩
abbrev cX12_go : ByteArray := prog_14_method_76_code
def yX12_go : MethodName := ⟨RX12, "go", "(I)I"⟩
abbrev cX12_draw : ByteArray := prog_14_method_77_code
def yX12_draw : MethodName := ⟨RX12, "draw", "(I)I"⟩
abbrev cX12_blow : ByteArray := prog_14_method_78_code
def yX12_blow : MethodName := ⟨RX12, "blow", "(IJ)I"⟩
abbrev cX12_undo : ByteArray := prog_14_method_79_code
def yX12_undo : MethodName := ⟨RX12, "undo", "()I"⟩
abbrev cX12_putAside : ByteArray := prog_14_method_80_code
def yX12_putAside : MethodName := ⟨RX12, "putAside", "()V"⟩
abbrev cX12_takeBack : ByteArray := prog_14_method_81_code
def yX12_takeBack : MethodName := ⟨RX12, "takeBack", "()V"⟩
abbrev cX12_toGun : ByteArray := prog_14_method_82_code
def yX12_toGun : MethodName := ⟨RX12, "toGun", "()V"⟩
abbrev cX12_ahead : ByteArray := prog_14_method_83_code
def yX12_ahead : MethodName := ⟨RX12, "ahead", "(II)I"⟩
abbrev cX12_scoreAtGun : ByteArray := prog_14_method_84_code
def yX12_scoreAtGun : MethodName := ⟨RX12, "scoreAtGun", "(I)I"⟩
abbrev cX12_bestCell : ByteArray := prog_14_method_85_code
def yX12_bestCell : MethodName := ⟨RX12, "bestCell", "(IIII)I"⟩
abbrev cX12_where : ByteArray := prog_14_method_86_code
def yX12_where : MethodName := ⟨RX12, "where", "(II)I"⟩
abbrev cX12_near : ByteArray := prog_14_method_87_code
def yX12_near : MethodName := ⟨RX12, "near", "(II)I"⟩
abbrev cX12_hold : ByteArray := prog_14_method_88_code
def yX12_hold : MethodName := ⟨RX12, "hold", "(II)I"⟩
abbrev cX12_row : ByteArray := prog_14_method_89_code
def yX12_row : MethodName := ⟨RX12, "row", "(II)I"⟩
abbrev cX12_tides : ByteArray := prog_14_method_90_code
def yX12_tides : MethodName := ⟨RX12, "tides", "()I"⟩
abbrev cX12_thirdOf : ByteArray := prog_14_method_91_code
def yX12_thirdOf : MethodName := ⟨RX12, "thirdOf", "(I)I"⟩
abbrev cX12_divisor : ByteArray := prog_14_method_92_code
def yX12_divisor : MethodName := ⟨RX12, "divisor", "(II)I"⟩
abbrev cX12_sag : ByteArray := prog_14_method_93_code
def yX12_sag : MethodName := ⟨RX12, "sag", "(I)I"⟩
abbrev cX12_heap : ByteArray := prog_14_method_94_code
def yX12_heap : MethodName := ⟨RX12, "heap", "(I)I"⟩
abbrev cX12_hole : ByteArray := prog_14_method_95_code
def yX12_hole : MethodName := ⟨RX12, "hole", "(I)I"⟩
abbrev cX12_keeps : ByteArray := prog_14_method_96_code
def yX12_keeps : MethodName := ⟨RX12, "keeps", "(I)I"⟩
abbrev cX12_which : ByteArray := prog_14_method_97_code
def yX12_which : MethodName := ⟨RX12, "which", "(I)I"⟩
abbrev cX12_thirdWorth : ByteArray := prog_14_method_98_code
def yX12_thirdWorth : MethodName := ⟨RX12, "thirdWorth", "(III)I"⟩
abbrev cX12_layThirds : ByteArray := prog_14_method_99_code
def yX12_layThirds : MethodName := ⟨RX12, "layThirds", "(I)V"⟩
abbrev cX12_isRest : ByteArray := prog_14_method_100_code
def yX12_isRest : MethodName := ⟨RX12, "isRest", "(I)Z"⟩
abbrev cX12_rows : ByteArray := prog_14_method_101_code
def yX12_rows : MethodName := ⟨RX12, "rows", "()I"⟩
abbrev cX12_rests : ByteArray := prog_14_method_102_code
def yX12_rests : MethodName := ⟨RX12, "rests", "(I)I"⟩
abbrev cX12_fullest : ByteArray := prog_14_method_103_code
def yX12_fullest : MethodName := ⟨RX12, "fullest", "(I)I"⟩
abbrev cX12_spread : ByteArray := prog_14_method_104_code
def yX12_spread : MethodName := ⟨RX12, "spread", "(I)I"⟩
abbrev cX12_duelOf : ByteArray := prog_14_method_105_code
def yX12_duelOf : MethodName := ⟨RX12, "duelOf", "(II)I"⟩
abbrev cX12_isLaw : ByteArray := prog_14_method_106_code
def yX12_isLaw : MethodName := ⟨RX12, "isLaw", "(I)Z"⟩
abbrev cX12_duel : ByteArray := prog_14_method_107_code
def yX12_duel : MethodName := ⟨RX12, "duel", "(II)I"⟩
abbrev cX12_reply : ByteArray := prog_14_method_108_code
def yX12_reply : MethodName := ⟨RX12, "reply", "(I)I"⟩
abbrev cX12_sumOfDuels : ByteArray := prog_14_method_109_code
def yX12_sumOfDuels : MethodName := ⟨RX12, "sumOfDuels", "(I)I"⟩
abbrev cX12_strong : ByteArray := prog_14_method_110_code
def yX12_strong : MethodName := ⟨RX12, "strong", "()I"⟩
abbrev cX12_picture : ByteArray := prog_14_method_111_code
def yX12_picture : MethodName := ⟨RX12, "picture", "(III)I"⟩
abbrev cX12_wasSo : ByteArray := prog_14_method_112_code
def yX12_wasSo : MethodName := ⟨RX12, "wasSo", "(II)Z"⟩
abbrev cX12_was : ByteArray := prog_14_method_113_code
def yX12_was : MethodName := ⟨RX12, "was", "(I)I"⟩
abbrev cX12_write : ByteArray := prog_14_method_114_code
def yX12_write : MethodName := ⟨RX12, "write", "()V"⟩
abbrev cX12_race : ByteArray := prog_14_method_115_code
def yX12_race : MethodName := ⟨RX12, "race", "()I"⟩
abbrev cX12_pointsOf : ByteArray := prog_14_method_116_code
def yX12_pointsOf : MethodName := ⟨RX12, "pointsOf", "(I)I"⟩
abbrev cX12_points : ByteArray := prog_14_method_117_code
def yX12_points : MethodName := ⟨RX12, "points", "(I)I"⟩
abbrev cX12_champion : ByteArray := prog_14_method_118_code
def yX12_champion : MethodName := ⟨RX12, "champion", "()I"⟩
abbrev cX12_isHeldAhead : ByteArray := prog_14_method_119_code
def yX12_isHeldAhead : MethodName := ⟨RX12, "isHeldAhead", "(III)Z"⟩
abbrev cX12_drawCell : ByteArray := prog_14_method_120_code
def yX12_drawCell : MethodName := ⟨RX12, "drawCell", "(I)V"⟩
abbrev cX12_season : ByteArray := prog_14_method_121_code
def yX12_season : MethodName := ⟨RX12, "season", "(IJ)I"⟩
abbrev cX12_flag : ByteArray := prog_14_method_122_code
def yX12_flag : MethodName := ⟨RX12, "flag", "(I)I"⟩
abbrev cX12_image : ByteArray := prog_14_method_123_code
def yX12_image : MethodName := ⟨RX12, "image", "()I"⟩
abbrev cX12_back : ByteArray := prog_14_method_124_code
def yX12_back : MethodName := ⟨RX12, "back", "()I"⟩
abbrev cX12_count : ByteArray := prog_14_method_125_code
def yX12_count : MethodName := ⟨RX12, "count", "(I)I"⟩
def RL : String := "GunLineLaw"
abbrev cL_boat : ByteArray := method_3_code
def yL_boat : MethodName := ⟨RL, "boat", "(LGunLine;II[J)I"⟩
abbrev cL_law : ByteArray := code
def yL_law : MethodName := ⟨RL, "law", "([I)Z"⟩
abbrev vwCl : List vw_C := [(RX0, TX0, 3), (RX1, TX1, 1), (RX2, TX2, 1), (RX3, TX3, 10), (RX4, TX4, 4), (RX5, TX5, 6), (RX6, TX6, 4), (RX7, TX7, 3), (RX8, TX8, 3), (RX9, TX9, 5), (RX10, TX10, 5), (RX11, TX11, 18), (RX12, TX12, 45)]
def RJ6 : String := "java/lang/Integer"
abbrev cJ6_signum_0f7a4 : ByteArray := prog_20_method_56_code
def yJ6_signum_0f7a4 : MethodName := ⟨RJ6, "signum", "(I)I"⟩
def RJ9 : String := "java/lang/Math"
abbrev cJ9_abs_0f7a4 : ByteArray := prog_21_method_59_code
def yJ9_abs_0f7a4 : MethodName := ⟨RJ9, "abs", "(I)I"⟩
abbrev cJ9_max_7cf53 : ByteArray := prog_21_method_65_code
def yJ9_max_7cf53 : MethodName := ⟨RJ9, "max", "(II)I"⟩
abbrev cJ9_max_f86c9 : ByteArray := prog_21_method_66_code
def yJ9_max_f86c9 : MethodName := ⟨RJ9, "max", "(JJ)J"⟩
abbrev cJ9_min_7cf53 : ByteArray := prog_21_method_69_code
def yJ9_min_7cf53 : MethodName := ⟨RJ9, "min", "(II)I"⟩
abbrev cJ9_min_f86c9 : ByteArray := prog_21_method_70_code
def yJ9_min_f86c9 : MethodName := ⟨RJ9, "min", "(JJ)J"⟩
def RJ0 : String := "java/lang/String"
abbrev cJ0_length_8abf5 : ByteArray := prog_23_method_54_code
def yJ0_length_8abf5 : MethodName := ⟨RJ0, "length", "()I"⟩
abbrev cJ0_indexOf_0f7a4 : ByteArray := prog_23_method_79_code
def yJ0_indexOf_0f7a4 : MethodName := ⟨RJ0, "indexOf", "(I)I"⟩
abbrev cJ0_indexOf_7cf53 : ByteArray := prog_23_method_80_code
def yJ0_indexOf_7cf53 : MethodName := ⟨RJ0, "indexOf", "(II)I"⟩
abbrev cJ0_coder_7d493 : ByteArray := prog_23_method_152_code
def yJ0_coder_7d493 : MethodName := ⟨RJ0, "coder", "()B"⟩
abbrev cJ0_isLatin1_aae02 : ByteArray := prog_23_method_154_code
def yJ0_isLatin1_aae02 : MethodName := ⟨RJ0, "isLatin1", "()Z"⟩
abbrev cJ0_checkBoundsBeginEnd_23922 : ByteArray := prog_23_method_158_code
def yJ0_checkBoundsBeginEnd_23922 : MethodName := ⟨RJ0, "checkBoundsBeginEnd", "(III)V"⟩
def RJ1 : String := "java/lang/StringLatin1"
abbrev cJ1_canEncode_9a6ad : ByteArray := prog_24_method_4_code
def yJ1_canEncode_9a6ad : MethodName := ⟨RJ1, "canEncode", "(I)Z"⟩
abbrev cJ1_indexOf_4cfef : ByteArray := prog_24_method_22_code
def yJ1_indexOf_4cfef : MethodName := ⟨RJ1, "indexOf", "([BIII)I"⟩
abbrev cJ1_indexOfChar_4cfef : ByteArray := prog_24_method_23_code
def yJ1_indexOfChar_4cfef : MethodName := ⟨RJ1, "indexOfChar", "([BIII)I"⟩
end
section
/-! the small machine's tables: kinds of fields (0 int, 1 boolean, 2 long, 3 reference), fields and constants by class and pool number -/
def mj_kdT : List (List Nat) := [[3, 0, 0], [3], [2], [3, 3, 3, 3, 3, 3, 3, 3, 0, 0], [3, 3, 3, 3], [3, 3, 3, 3, 0, 0], [3, 3, 3, 0], [3, 3, 0], [3, 0, 0], [3, 3, 3, 0, 0], [3, 3, 1, 3, 3], [3, 3, 3, 3, 3, 3, 3, 3, 3, 3, 3, 3, 3, 3, 3, 3, 1, 0], [0, 3, 0, 0, 0, 0, 3, 3, 3, 3, 3, 3, 3, 0, 0, 3, 3, 3, 3, 0, 3, 3, 0, 3, 0, 0, 0, 3, 3, 3, 3, 0, 2, 3, 3, 3, 3, 3, 3, 3, 0, 3, 0, 3, 1]]
def mj_flT : List (List (Nat × Nat × Nat)) := [[(11, 0, 0), (19, 0, 1), (15, 0, 2)], [(9, 1, 0), (31, 3, 0), (28, 3, 1), (38, 3, 2), (25, 3, 7), (52, 3, 8), (19, 3, 9)], [(7, 2, 0)], [(9, 3, 0), (15, 3, 1), (18, 3, 2), (21, 3, 3), (24, 3, 4), (27, 3, 5), (30, 3, 6), (33, 3, 7), (36, 3, 8), (40, 3, 9)], [(110, 1, 0), (82, 3, 0), (69, 3, 1), (52, 3, 2), (72, 3, 5), (126, 3, 7), (61, 3, 8), (107, 3, 9), (23, 4, 0), (11, 4, 1), (17, 4, 2), (20, 4, 3)], [(31, 3, 8), (9, 5, 0), (15, 5, 1), (18, 5, 2), (21, 5, 3), (24, 5, 4), (28, 5, 5)], [(15, 6, 0), (18, 6, 1), (22, 6, 2), (25, 6, 3)], [(34, 8, 2), (17, 7, 0), (11, 7, 1), (26, 7, 2)], [(11, 8, 0), (15, 8, 1), (19, 8, 2)], [(11, 9, 0), (15, 9, 1), (18, 9, 2), (21, 9, 3), (25, 9, 4)], [(67, 8, 1), (49, 8, 2), (91, 1, 0), (133, 3, 0), (139, 3, 1), (127, 3, 2), (130, 3, 3), (61, 3, 8), (29, 10, 0), (11, 10, 1), (38, 10, 2), (18, 10, 3), (25, 10, 4)], [(109, 8, 1), (148, 6, 3), (208, 1, 0), (167, 3, 0), (170, 3, 1), (173, 3, 2), (176, 3, 3), (179, 3, 4), (182, 3, 5), (185, 3, 6), (188, 3, 7), (145, 3, 8), (232, 3, 9), (128, 10, 3), (133, 10, 4), (149, 7, 1), (153, 7, 2), (214, 0, 2), (328, 5, 3), (335, 5, 4), (321, 5, 5), (10, 11, 0), (19, 11, 1), (28, 11, 2), (35, 11, 3), (42, 11, 4), (46, 11, 5), (52, 11, 6), (56, 11, 7), (59, 11, 8), (62, 11, 9), (65, 11, 10), (73, 11, 11), (80, 11, 12), (87, 11, 13), (94, 11, 14), (101, 11, 15), (141, 11, 16), (222, 11, 17)], [(99, 12, 0), (9, 12, 1), (106, 12, 2), (109, 12, 3), (116, 12, 4), (122, 12, 5), (13, 12, 6), (16, 12, 7), (19, 12, 8), (22, 12, 9), (25, 12, 10), (28, 12, 11), (31, 12, 12), (280, 12, 13), (119, 12, 14), (34, 12, 15), (37, 12, 16), (40, 12, 17), (43, 12, 18), (238, 12, 19), (46, 12, 20), (49, 12, 21), (255, 12, 22), (52, 12, 23), (361, 12, 24), (55, 12, 25), (343, 12, 26), (59, 12, 27), (63, 12, 28), (66, 12, 29), (69, 12, 30), (267, 12, 31), (370, 12, 32), (72, 12, 33), (75, 12, 34), (78, 12, 35), (81, 12, 36), (84, 12, 37), (87, 12, 38), (90, 12, 39), (261, 12, 40), (93, 12, 41), (264, 12, 42), (96, 12, 43), (270, 12, 44)], []]
def mj_ldT : List (List (Nat × Int32)) := [[], [], [], [], [], [], [(53, 1000000), (56, (-1000000))], [], [], [], [], [(250, (-1000000))], [(381, (-1000000))], []]
def mj_l2T : List (List (Nat × Int64)) := [[], [], [(13, 6364136223846793005), (15, 1442695040888963407)], [], [], [], [(51, 1000000), (54, (-1000000))], [], [], [], [], [], [(189, (-1000000)), (191, 1000000), (374, 6364136223846793005), (376, 1442695040888963407)], [(76, 4294967295)]]
def mj_own : List String := [RX0, RX1, RX2, RX3, RX4, RX5, RX6, RX7, RX8, RX9, RX10, RX11, RX12, RL, RJ0, RJ1, RJ9, RJ6]
end
section
/-! ===== words of the tables that are good everywhere; methods as data: the words of it ===== -/
def mj_GW : List Cond := lw_tbl.filter goodWord
def mj_gw (w : Cond) : Bool := decide (w ∈ lw_tbl) && goodWord w
theorem mj_gw_in {w : Cond} (h : mj_gw w = true) : w ∈ mj_GW := by
  simp only [mj_gw, Bool.and_eq_true, decide_eq_true_eq] at h
  exact List.mem_filter.mpr h
/-- how many bytes an instruction of this kind takes -/
def mj_len : Instr → Nat
  | .bipush _ | .iload _ | .lload _ | .aload _ | .istore _ | .astore _ | .ldc _ => 2
  | .sipush _ | .ldc_w _ | .ldc2_w _ | .iinc _ _ | .getfield _ | .putfield _ => 3
  | _ => 1
/-- class, constructor?, bytes, locals, answer's type, name -/
abbrev mj_m : Type := Nat × Bool × ByteArray × Nat × Option FieldType × MethodName
def mj_il : Instr → Nat
  | .goto _ | .ifCond _ _ | .if_icmp _ _ | .invokevirtual _ | .invokestatic _ | .invokespecial _ | .getstatic _ | .new _ => 3
  | i => mj_len i
def mj_isSw : Instr → Bool
  | .tableswitch _ _ _ _ | .lookupswitch _ _ => true
  | _ => false
def mj_pd (cc : ByteArray) (P : List (Nat × Instr × Nat)) : Prop := ∀ e ∈ P, decode cc e.1 = .ok (e.2.1, e.2.2) ∧ (mj_isSw e.2.1 = true ∨ e.2.2 = mj_il e.2.1)
/-- what stands in the tables of a method that is called by a name -/
def mj_mf (μ : mj_m) : Prop := Cond.code μ.2.2.2.2.2 μ.2.2.1 μ.2.2.2.1 μ.2.2.2.2.1 ∈ mj_GW ∧ Cond.initialized μ.2.2.2.2.2.cls ∈ mj_GW ∧ μ.2.2.2.1 ≤ 40 ∧ μ.2.2.2.2.2.cls ≠ "java/lang/invoke/MethodHandle" ∧ μ.2.2.2.2.2.cls ≠ "java/lang/invoke/VarHandle"
theorem mj_all {α : Type} {l : List α} {f : α → Bool} {e : α} (h : l.all f = true) (k : Nat) (hk : l[k]? = some e) : f e = true := List.all_eq_true.mp h e (List.mem_of_getElem? hk)
theorem mj_t1 {w : Cond} (j : Nat) (h : tables_1_1[j]? = some w) (hg : goodWord w = true) : w ∈ mj_GW := List.mem_filter.mpr ⟨List.mem_append_right _ (List.mem_append_left _ (List.mem_of_getElem? h)), hg⟩
theorem mj_t2 {w : Cond} (j : Nat) (h : tables_1_2[j]? = some w) (hg : goodWord w = true) : w ∈ mj_GW := List.mem_filter.mpr ⟨List.mem_append_right _ (List.mem_append_right _ (List.mem_append_left _ (List.mem_of_getElem? h))), hg⟩
theorem mj_t3 {w : Cond} (j : Nat) (h : tables_1_3[j]? = some w) (hg : goodWord w = true) : w ∈ mj_GW := List.mem_filter.mpr ⟨List.mem_append_right _ (List.mem_append_right _ (List.mem_append_right _ (List.mem_append_left _ (List.mem_of_getElem? h)))), hg⟩
theorem mj_t4 {w : Cond} (j : Nat) (h : tables_1_4[j]? = some w) (hg : goodWord w = true) : w ∈ mj_GW := List.mem_filter.mpr ⟨List.mem_append_right _ (List.mem_append_right _ (List.mem_append_right _ (List.mem_append_right _ (List.mem_append_left _ (List.mem_of_getElem? h))))), hg⟩
theorem mj_t5 {w : Cond} (j : Nat) (h : tables_1_5[j]? = some w) (hg : goodWord w = true) : w ∈ mj_GW := List.mem_filter.mpr ⟨List.mem_append_right _ (List.mem_append_right _ (List.mem_append_right _ (List.mem_append_right _ (List.mem_append_right _ (List.mem_append_left _ (List.mem_of_getElem? h)))))), hg⟩
theorem mj_t6 {w : Cond} (j : Nat) (h : tables_1_6[j]? = some w) (hg : goodWord w = true) : w ∈ mj_GW := List.mem_filter.mpr ⟨List.mem_append_right _ (List.mem_append_right _ (List.mem_append_right _ (List.mem_append_right _ (List.mem_append_right _ (List.mem_append_right _ (List.mem_append_left _ (List.mem_of_getElem? h))))))), hg⟩
theorem mj_t7 {w : Cond} (j : Nat) (h : tables_1_7[j]? = some w) (hg : goodWord w = true) : w ∈ mj_GW := List.mem_filter.mpr ⟨List.mem_append_right _ (List.mem_append_right _ (List.mem_append_right _ (List.mem_append_right _ (List.mem_append_right _ (List.mem_append_right _ (List.mem_append_right _ (List.mem_append_left _ (List.mem_of_getElem? h)))))))), hg⟩
theorem mj_t8 {w : Cond} (j : Nat) (h : tables_1_8[j]? = some w) (hg : goodWord w = true) : w ∈ mj_GW := List.mem_filter.mpr ⟨List.mem_append_right _ (List.mem_append_right _ (List.mem_append_right _ (List.mem_append_right _ (List.mem_append_right _ (List.mem_append_right _ (List.mem_append_right _ (List.mem_append_right _ (List.mem_of_getElem? h)))))))), hg⟩
theorem mj_p1 {w : Cond} (j : Nat) (h : (k2_sels lw_privs_1)[j]? = some w) (hg : goodWord w = true) : w ∈ mj_GW := by
  have h1 : w ∈ k2_sels lw_privs := by
    unfold k2_sels at h ⊢
    obtain ⟨q, hq, rfl⟩ := List.mem_map.mp (List.mem_of_getElem? h)
    exact List.mem_map.mpr ⟨q, List.mem_append_left _ hq, rfl⟩
  exact List.mem_filter.mpr ⟨List.mem_append_left _ h1, hg⟩
theorem mj_p2 {w : Cond} (j : Nat) (h : (k2_sels lw_privs_2)[j]? = some w) (hg : goodWord w = true) : w ∈ mj_GW := by
  have h1 : w ∈ k2_sels lw_privs := by
    unfold k2_sels at h ⊢
    obtain ⟨q, hq, rfl⟩ := List.mem_map.mp (List.mem_of_getElem? h)
    exact List.mem_map.mpr ⟨q, List.mem_append_right _ (List.mem_append_left _ hq), rfl⟩
  exact List.mem_filter.mpr ⟨List.mem_append_left _ h1, hg⟩
theorem mj_p3 {w : Cond} (j : Nat) (h : (k2_sels lw_privs_3)[j]? = some w) (hg : goodWord w = true) : w ∈ mj_GW := by
  have h1 : w ∈ k2_sels lw_privs := by
    unfold k2_sels at h ⊢
    obtain ⟨q, hq, rfl⟩ := List.mem_map.mp (List.mem_of_getElem? h)
    exact List.mem_map.mpr ⟨q, List.mem_append_right _ (List.mem_append_right _ (List.mem_append_left _ hq)), rfl⟩
  exact List.mem_filter.mpr ⟨List.mem_append_left _ h1, hg⟩
theorem mj_p4 {w : Cond} (j : Nat) (h : (k2_sels lw_privs_4)[j]? = some w) (hg : goodWord w = true) : w ∈ mj_GW := by
  have h1 : w ∈ k2_sels lw_privs := by
    unfold k2_sels at h ⊢
    obtain ⟨q, hq, rfl⟩ := List.mem_map.mp (List.mem_of_getElem? h)
    exact List.mem_map.mpr ⟨q, List.mem_append_right _ (List.mem_append_right _ (List.mem_append_right _ (List.mem_append_left _ hq))), rfl⟩
  exact List.mem_filter.mpr ⟨List.mem_append_left _ h1, hg⟩
theorem mj_p5 {w : Cond} (j : Nat) (h : (k2_sels lw_privs_5)[j]? = some w) (hg : goodWord w = true) : w ∈ mj_GW := by
  have h1 : w ∈ k2_sels lw_privs := by
    unfold k2_sels at h ⊢
    obtain ⟨q, hq, rfl⟩ := List.mem_map.mp (List.mem_of_getElem? h)
    exact List.mem_map.mpr ⟨q, List.mem_append_right _ (List.mem_append_right _ (List.mem_append_right _ (List.mem_append_right _ (List.mem_append_left _ hq)))), rfl⟩
  exact List.mem_filter.mpr ⟨List.mem_append_left _ h1, hg⟩
theorem mj_p6 {w : Cond} (j : Nat) (h : (k2_sels lw_privs_6)[j]? = some w) (hg : goodWord w = true) : w ∈ mj_GW := by
  have h1 : w ∈ k2_sels lw_privs := by
    unfold k2_sels at h ⊢
    obtain ⟨q, hq, rfl⟩ := List.mem_map.mp (List.mem_of_getElem? h)
    exact List.mem_map.mpr ⟨q, List.mem_append_right _ (List.mem_append_right _ (List.mem_append_right _ (List.mem_append_right _ (List.mem_append_right _ (List.mem_append_left _ hq))))), rfl⟩
  exact List.mem_filter.mpr ⟨List.mem_append_left _ h1, hg⟩
theorem mj_p7 {w : Cond} (j : Nat) (h : (k2_sels lw_privs_7)[j]? = some w) (hg : goodWord w = true) : w ∈ mj_GW := by
  have h1 : w ∈ k2_sels lw_privs := by
    unfold k2_sels at h ⊢
    obtain ⟨q, hq, rfl⟩ := List.mem_map.mp (List.mem_of_getElem? h)
    exact List.mem_map.mpr ⟨q, List.mem_append_right _ (List.mem_append_right _ (List.mem_append_right _ (List.mem_append_right _ (List.mem_append_right _ (List.mem_append_right _ (hq)))))), rfl⟩
  exact List.mem_filter.mpr ⟨List.mem_append_left _ h1, hg⟩
end
section
/-! ===== the methods as data (by program, wip/whole/gen_methods.py) ===== -/
theorem mj_pdB {cc : ByteArray} {P : List (Nat × Instr × Nat)} (h : P.all (fun e => decide (decode cc e.1 = .ok (e.2.1, e.2.2)) && (mj_isSw e.2.1 || decide (e.2.2 = mj_il e.2.1))) = true) : mj_pd cc P := by
  intro e he
  have h1 := List.all_eq_true.mp h e he
  simp only [Bool.and_eq_true, Bool.or_eq_true, decide_eq_true_eq] at h1
  exact h1
def mX0_forget : mj_m := (0, false, cX0_forget, 1, none, yX0_forget)
def pX0_forget : List (Nat × Instr × Nat) := [(0, .aload_n 0, 1), (1, .iconst 0, 1), (2, .putfield 15, 3), (5, .return_, 1)]
set_option maxRecDepth 100000 in
theorem dX0_forget : mj_pd cX0_forget pX0_forget := mj_pdB (by decide +kernel)
theorem fX0_forget : mj_mf mX0_forget := ⟨mj_t3 129 (by decide +kernel) rfl, mj_t1 10 (by decide +kernel) rfl, by decide, by decide, by decide⟩
theorem iX0_forget : Cond.instanceMethod yX0_forget ∈ mj_GW := mj_t3 127 (by decide +kernel) rfl
theorem vX0_forget : Cond.selects (mj_own.getD 0 "") yX0_forget yX0_forget ∈ mj_GW := mj_t3 128 (by decide +kernel) rfl
def mX0_remember : mj_m := (0, false, cX0_remember, 2, none, yX0_remember)
def pX0_remember : List (Nat × Instr × Nat) := [(0, .aload_n 1, 1), (1, .aload_n 0, 1), (2, .getfield 11, 3), (5, .aload_n 0, 1), (6, .getfield 19, 3), (9, .bipush 49, 2), (11, .imul, 1), (12, .invokevirtual 22, 3), (15, .aload_n 0, 1), (16, .aload_n 0, 1), (17, .getfield 19, 3), (20, .iconst 1, 1), (21, .iadd, 1), (22, .bipush 40, 2), (24, .if_icmp .ge 12, 3), (27, .aload_n 0, 1), (28, .getfield 19, 3), (31, .iconst 1, 1), (32, .iadd, 1), (33, .goto 4, 3), (36, .iconst 0, 1), (37, .putfield 19, 3), (40, .aload_n 0, 1), (41, .getfield 15, 3), (44, .bipush 40, 2), (46, .if_icmp .ge 13, 3), (49, .aload_n 0, 1), (50, .dup, 1), (51, .getfield 15, 3), (54, .iconst 1, 1), (55, .iadd, 1), (56, .putfield 15, 3), (59, .return_, 1)]
set_option maxRecDepth 100000 in
theorem dX0_remember : mj_pd cX0_remember pX0_remember := mj_pdB (by decide +kernel)
theorem fX0_remember : mj_mf mX0_remember := ⟨mj_t3 162 (by decide +kernel) rfl, mj_t1 10 (by decide +kernel) rfl, by decide, by decide, by decide⟩
theorem iX0_remember : Cond.instanceMethod yX0_remember ∈ mj_GW := mj_t3 160 (by decide +kernel) rfl
theorem vX0_remember : Cond.selects (mj_own.getD 0 "") yX0_remember yX0_remember ∈ mj_GW := mj_t3 161 (by decide +kernel) rfl
def mX0_takeBack : mj_m := (0, false, cX0_takeBack, 2, none, yX0_takeBack)
def pX0_takeBack : List (Nat × Instr × Nat) := [(0, .aload_n 0, 1), (1, .getfield 15, 3), (4, .iconst 1, 1), (5, .if_icmp .ge 4, 3), (8, .return_, 1), (9, .aload_n 0, 1), (10, .aload_n 0, 1), (11, .getfield 19, 3), (14, .ifCond .le 12, 3), (17, .aload_n 0, 1), (18, .getfield 19, 3), (21, .iconst 1, 1), (22, .isub, 1), (23, .goto 5, 3), (26, .bipush 39, 2), (28, .putfield 19, 3), (31, .aload_n 0, 1), (32, .dup, 1), (33, .getfield 15, 3), (36, .iconst 1, 1), (37, .isub, 1), (38, .putfield 15, 3), (41, .aload_n 1, 1), (42, .aload_n 0, 1), (43, .getfield 11, 3), (46, .aload_n 0, 1), (47, .getfield 19, 3), (50, .bipush 49, 2), (52, .imul, 1), (53, .invokevirtual 26, 3), (56, .return_, 1)]
set_option maxRecDepth 100000 in
theorem dX0_takeBack : mj_pd cX0_takeBack pX0_takeBack := mj_pdB (by decide +kernel)
theorem fX0_takeBack : mj_mf mX0_takeBack := ⟨mj_t4 71 (by decide +kernel) rfl, mj_t1 10 (by decide +kernel) rfl, by decide, by decide, by decide⟩
theorem iX0_takeBack : Cond.instanceMethod yX0_takeBack ∈ mj_GW := mj_t4 69 (by decide +kernel) rfl
theorem vX0_takeBack : Cond.selects (mj_own.getD 0 "") yX0_takeBack yX0_takeBack ∈ mj_GW := mj_t4 70 (by decide +kernel) rfl
def mX1_copyFrom : mj_m := (1, false, cX1_copyFrom, 2, none, yX1_copyFrom)
def pX1_copyFrom : List (Nat × Instr × Nat) := [(0, .aload_n 1, 1), (1, .getfield 9, 3), (4, .iconst 0, 1), (5, .aload_n 0, 1), (6, .getfield 9, 3), (9, .iconst 0, 1), (10, .bipush 7, 2), (12, .invokestatic 13, 3), (15, .return_, 1)]
set_option maxRecDepth 100000 in
theorem dX1_copyFrom : mj_pd cX1_copyFrom pX1_copyFrom := mj_pdB (by decide +kernel)
theorem fX1_copyFrom : mj_mf mX1_copyFrom := ⟨mj_t3 120 (by decide +kernel) rfl, mj_t1 5 (by decide +kernel) rfl, by decide, by decide, by decide⟩
theorem iX1_copyFrom : Cond.instanceMethod yX1_copyFrom ∈ mj_GW := mj_t3 118 (by decide +kernel) rfl
theorem vX1_copyFrom : Cond.selects (mj_own.getD 1 "") yX1_copyFrom yX1_copyFrom ∈ mj_GW := mj_t3 119 (by decide +kernel) rfl
def mX1_setForDuel : mj_m := (1, false, cX1_setForDuel, 3, none, yX1_setForDuel)
def pX1_setForDuel : List (Nat × Instr × Nat) := [(0, .iconst 0, 1), (1, .istore_n 2, 1), (2, .iload_n 2, 1), (3, .bipush 7, 2), (5, .if_icmp .ge 16, 3), (8, .aload_n 0, 1), (9, .getfield 9, 3), (12, .iload_n 2, 1), (13, .iconst 0, 1), (14, .iastore, 1), (15, .iinc 2 1, 3), (18, .goto (-16), 3), (21, .aload_n 0, 1), (22, .getfield 9, 3), (25, .iconst 0, 1), (26, .iconst 2, 1), (27, .iastore, 1), (28, .aload_n 0, 1), (29, .getfield 9, 3), (32, .iconst 5, 1), (33, .iload_n 1, 1), (34, .iastore, 1), (35, .return_, 1)]
set_option maxRecDepth 100000 in
theorem dX1_setForDuel : mj_pd cX1_setForDuel pX1_setForDuel := mj_pdB (by decide +kernel)
theorem fX1_setForDuel : mj_mf mX1_setForDuel := ⟨mj_t4 226 (by decide +kernel) rfl, mj_t1 5 (by decide +kernel) rfl, by decide, by decide, by decide⟩
theorem iX1_setForDuel : Cond.instanceMethod yX1_setForDuel ∈ mj_GW := mj_t4 224 (by decide +kernel) rfl
theorem vX1_setForDuel : Cond.selects (mj_own.getD 1 "") yX1_setForDuel yX1_setForDuel ∈ mj_GW := mj_t4 225 (by decide +kernel) rfl
def mX1_hasColumn : mj_m := (1, false, cX1_hasColumn, 2, some .boolean, yX1_hasColumn)
def pX1_hasColumn : List (Nat × Instr × Nat) := [(0, .iload_n 1, 1), (1, .ifCond .lt 17, 3), (4, .iload_n 1, 1), (5, .aload_n 0, 1), (6, .getfield 9, 3), (9, .iconst 0, 1), (10, .iaload, 1), (11, .if_icmp .ge 7, 3), (14, .iconst 1, 1), (15, .goto 4, 3), (18, .iconst 0, 1), (19, .ireturn, 1)]
set_option maxRecDepth 100000 in
theorem dX1_hasColumn : mj_pd cX1_hasColumn pX1_hasColumn := mj_pdB (by decide +kernel)
theorem fX1_hasColumn : mj_mf mX1_hasColumn := ⟨mj_t3 58 (by decide +kernel) rfl, mj_t1 5 (by decide +kernel) rfl, by decide, by decide, by decide⟩
theorem iX1_hasColumn : Cond.instanceMethod yX1_hasColumn ∈ mj_GW := mj_t3 56 (by decide +kernel) rfl
theorem vX1_hasColumn : Cond.selects (mj_own.getD 1 "") yX1_hasColumn yX1_hasColumn ∈ mj_GW := mj_t3 57 (by decide +kernel) rfl
def mX1_thirdOf : mj_m := (1, false, cX1_thirdOf, 2, some .int, yX1_thirdOf)
def pX1_thirdOf : List (Nat × Instr × Nat) := [(0, .aload_n 0, 1), (1, .getfield 9, 3), (4, .iconst 0, 1), (5, .iaload, 1), (6, .iconst 1, 1), (7, .if_icmp .ge 7, 3), (10, .iconst 0, 1), (11, .goto 13, 3), (14, .iload_n 1, 1), (15, .iconst 3, 1), (16, .imul, 1), (17, .aload_n 0, 1), (18, .getfield 9, 3), (21, .iconst 0, 1), (22, .iaload, 1), (23, .idiv, 1), (24, .ireturn, 1)]
set_option maxRecDepth 100000 in
theorem dX1_thirdOf : mj_pd cX1_thirdOf pX1_thirdOf := mj_pdB (by decide +kernel)
theorem fX1_thirdOf : mj_mf mX1_thirdOf := ⟨mj_t4 151 (by decide +kernel) rfl, mj_t1 5 (by decide +kernel) rfl, by decide, by decide, by decide⟩
theorem iX1_thirdOf : Cond.instanceMethod yX1_thirdOf ∈ mj_GW := mj_t4 149 (by decide +kernel) rfl
theorem vX1_thirdOf : Cond.selects (mj_own.getD 1 "") yX1_thirdOf yX1_thirdOf ∈ mj_GW := mj_t4 150 (by decide +kernel) rfl
def mX1_secondsLeft : mj_m := (1, false, cX1_secondsLeft, 2, some .int, yX1_secondsLeft)
def pX1_secondsLeft : List (Nat × Instr × Nat) := [(0, .aload_n 0, 1), (1, .getfield 9, 3), (4, .iconst 5, 1), (5, .iaload, 1), (6, .aload_n 1, 1), (7, .getfield 19, 3), (10, .isub, 1), (11, .ireturn, 1)]
set_option maxRecDepth 100000 in
theorem dX1_secondsLeft : mj_pd cX1_secondsLeft pX1_secondsLeft := mj_pdB (by decide +kernel)
theorem fX1_secondsLeft : mj_mf mX1_secondsLeft := ⟨mj_t3 199 (by decide +kernel) rfl, mj_t1 5 (by decide +kernel) rfl, by decide, by decide, by decide⟩
theorem iX1_secondsLeft : Cond.instanceMethod yX1_secondsLeft ∈ mj_GW := mj_t3 197 (by decide +kernel) rfl
theorem vX1_secondsLeft : Cond.selects (mj_own.getD 1 "") yX1_secondsLeft yX1_secondsLeft ∈ mj_GW := mj_t3 198 (by decide +kernel) rfl
def mX1_statusOf : mj_m := (1, false, cX1_statusOf, 3, some .int, yX1_statusOf)
def pX1_statusOf : List (Nat × Instr × Nat) := [(0, .aload_n 0, 1), (1, .getfield 9, 3), (4, .bipush 6, 2), (6, .iaload, 1), (7, .iconst 1, 1), (8, .if_icmp .ne 19, 3), (11, .aload_n 1, 1), (12, .getfield 25, 3), (15, .iload_n 2, 1), (16, .iaload, 1), (17, .iconst 1, 1), (18, .if_icmp .ne 7, 3), (21, .iconst 2, 1), (22, .goto 4, 3), (25, .iconst 0, 1), (26, .ireturn, 1), (27, .aload_n 1, 1), (28, .getfield 28, 3), (31, .iload_n 2, 1), (32, .iaload, 1), (33, .ifCond .ge 7, 3), (36, .iconst 1, 1), (37, .goto 4, 3), (40, .iconst 0, 1), (41, .ireturn, 1)]
set_option maxRecDepth 100000 in
theorem dX1_statusOf : mj_pd cX1_statusOf pX1_statusOf := mj_pdB (by decide +kernel)
theorem fX1_statusOf : mj_mf mX1_statusOf := ⟨mj_t4 89 (by decide +kernel) rfl, mj_t1 5 (by decide +kernel) rfl, by decide, by decide, by decide⟩
theorem iX1_statusOf : Cond.instanceMethod yX1_statusOf ∈ mj_GW := mj_t4 87 (by decide +kernel) rfl
theorem vX1_statusOf : Cond.selects (mj_own.getD 1 "") yX1_statusOf yX1_statusOf ∈ mj_GW := mj_t4 88 (by decide +kernel) rfl
def mX1_scoreOf : mj_m := (1, false, cX1_scoreOf, 5, some .int, yX1_scoreOf)
def pX1_scoreOf : List (Nat × Instr × Nat) := [(0, .aload_n 0, 1), (1, .aload_n 1, 1), (2, .getfield 31, 3), (5, .iload_n 2, 1), (6, .iaload, 1), (7, .invokevirtual 34, 3), (10, .aload_n 1, 1), (11, .getfield 38, 3), (14, .iload_n 2, 1), (15, .iaload, 1), (16, .iadd, 1), (17, .istore_n 3, 1), (18, .aload_n 1, 1), (19, .getfield 28, 3), (22, .iload_n 2, 1), (23, .iaload, 1), (24, .ifCond .le 12, 3), (27, .iload_n 3, 1), (28, .aload_n 1, 1), (29, .getfield 28, 3), (32, .iload_n 2, 1), (33, .iaload, 1), (34, .isub, 1), (35, .istore_n 3, 1), (36, .aload_n 1, 1), (37, .iload_n 2, 1), (38, .invokevirtual 41, 3), (41, .ifCond .eq 6, 3), (44, .iinc 3 (-5), 3), (47, .aload_n 0, 1), (48, .aload_n 1, 1), (49, .iload_n 2, 1), (50, .invokevirtual 45, 3), (53, .istore 4, 2), (55, .iload 4, 2), (57, .iconst 1, 1), (58, .if_icmp .ne 6, 3), (61, .iinc 3 (-30), 3), (64, .iload 4, 2), (66, .iconst 2, 1), (67, .if_icmp .ne 10, 3), (70, .iload_n 3, 1), (71, .bipush 100, 2), (73, .isub, 1), (74, .goto 4, 3), (77, .iload_n 3, 1), (78, .ireturn, 1)]
set_option maxRecDepth 100000 in
theorem dX1_scoreOf : mj_pd cX1_scoreOf pX1_scoreOf := mj_pdB (by decide +kernel)
theorem fX1_scoreOf : mj_mf mX1_scoreOf := ⟨mj_t4 93 (by decide +kernel) rfl, mj_t1 5 (by decide +kernel) rfl, by decide, by decide, by decide⟩
theorem iX1_scoreOf : Cond.instanceMethod yX1_scoreOf ∈ mj_GW := mj_t4 91 (by decide +kernel) rfl
theorem vX1_scoreOf : Cond.selects (mj_own.getD 1 "") yX1_scoreOf yX1_scoreOf ∈ mj_GW := mj_t4 92 (by decide +kernel) rfl
def mX1_worthOfColumn : mj_m := (1, false, cX1_worthOfColumn, 4, some .int, yX1_worthOfColumn)
def pX1_worthOfColumn : List (Nat × Instr × Nat) := [(0, .aload_n 0, 1), (1, .getfield 9, 3), (4, .iconst 0, 1), (5, .iaload, 1), (6, .iconst 1, 1), (7, .isub, 1), (8, .istore_n 2, 1), (9, .aload_n 0, 1), (10, .getfield 9, 3), (13, .iconst 2, 1), (14, .iaload, 1), (15, .ifCond .ne 9, 3), (18, .iload_n 2, 1), (19, .iload_n 1, 1), (20, .isub, 1), (21, .goto 4, 3), (24, .iload_n 1, 1), (25, .istore_n 3, 1), (26, .iload_n 2, 1), (27, .iconst 1, 1), (28, .if_icmp .ge 7, 3), (31, .iconst 0, 1), (32, .goto 15, 3), (35, .iconst 5, 1), (36, .aload_n 0, 1), (37, .getfield 9, 3), (40, .iconst 1, 1), (41, .iaload, 1), (42, .imul, 1), (43, .iload_n 3, 1), (44, .imul, 1), (45, .iload_n 2, 1), (46, .idiv, 1), (47, .ireturn, 1)]
set_option maxRecDepth 100000 in
theorem dX1_worthOfColumn : mj_pd cX1_worthOfColumn pX1_worthOfColumn := mj_pdB (by decide +kernel)
theorem fX1_worthOfColumn : mj_mf mX1_worthOfColumn := ⟨mj_t4 97 (by decide +kernel) rfl, mj_t1 5 (by decide +kernel) rfl, by decide, by decide, by decide⟩
theorem iX1_worthOfColumn : Cond.instanceMethod yX1_worthOfColumn ∈ mj_GW := mj_t4 96 (by decide +kernel) rfl
theorem vX1_worthOfColumn : Cond.selects (mj_own.getD 1 "") yX1_worthOfColumn yX1_worthOfColumn ∈ mj_GW := mj_p2 9 (by decide +kernel) rfl
def mX1_placeOf : mj_m := (1, false, cX1_placeOf, 7, some .int, yX1_placeOf)
def pX1_placeOf : List (Nat × Instr × Nat) := [(0, .aload_n 0, 1), (1, .aload_n 1, 1), (2, .iload_n 2, 1), (3, .invokevirtual 49, 3), (6, .istore_n 3, 1), (7, .iconst 1, 1), (8, .istore 4, 2), (10, .iconst 0, 1), (11, .istore 5, 2), (13, .iload 5, 2), (15, .aload_n 1, 1), (16, .getfield 52, 3), (19, .if_icmp .ge 48, 3), (22, .iload 5, 2), (24, .iload_n 2, 1), (25, .if_icmp .ne 6, 3), (28, .goto 33, 3), (31, .aload_n 0, 1), (32, .aload_n 1, 1), (33, .iload 5, 2), (35, .invokevirtual 49, 3), (38, .istore 6, 2), (40, .iload 6, 2), (42, .iload_n 3, 1), (43, .if_icmp .gt 15, 3), (46, .iload 6, 2), (48, .iload_n 3, 1), (49, .if_icmp .ne 12, 3), (52, .iload 5, 2), (54, .iload_n 2, 1), (55, .if_icmp .ge 6, 3), (58, .iinc 4 1, 3), (61, .iinc 5 1, 3), (64, .goto (-51), 3), (67, .iload 4, 2), (69, .ireturn, 1)]
set_option maxRecDepth 100000 in
theorem dX1_placeOf : mj_pd cX1_placeOf pX1_placeOf := mj_pdB (by decide +kernel)
theorem fX1_placeOf : mj_mf mX1_placeOf := ⟨mj_t4 103 (by decide +kernel) rfl, mj_t1 5 (by decide +kernel) rfl, by decide, by decide, by decide⟩
theorem iX1_placeOf : Cond.instanceMethod yX1_placeOf ∈ mj_GW := mj_t4 101 (by decide +kernel) rfl
theorem vX1_placeOf : Cond.selects (mj_own.getD 1 "") yX1_placeOf yX1_placeOf ∈ mj_GW := mj_t4 102 (by decide +kernel) rfl
def mX2_begin : mj_m := (2, false, cX2_begin, 3, none, yX2_begin)
def pX2_begin : List (Nat × Instr × Nat) := [(0, .aload_n 0, 1), (1, .lload_n 1, 1), (2, .putfield 7, 3), (5, .return_, 1)]
set_option maxRecDepth 100000 in
theorem dX2_begin : mj_pd cX2_begin pX2_begin := mj_pdB (by decide +kernel)
theorem fX2_begin : mj_mf mX2_begin := ⟨mj_t4 49 (by decide +kernel) rfl, mj_t1 9 (by decide +kernel) rfl, by decide, by decide, by decide⟩
theorem iX2_begin : Cond.instanceMethod yX2_begin ∈ mj_GW := mj_t4 47 (by decide +kernel) rfl
theorem vX2_begin : Cond.selects (mj_own.getD 2 "") yX2_begin yX2_begin ∈ mj_GW := mj_t4 48 (by decide +kernel) rfl
def mX2_next : mj_m := (2, false, cX2_next, 2, some .int, yX2_next)
def pX2_next : List (Nat × Instr × Nat) := [(0, .aload_n 0, 1), (1, .aload_n 0, 1), (2, .getfield 7, 3), (5, .ldc2_w 13, 3), (8, .lmul, 1), (9, .ldc2_w 15, 3), (12, .ladd, 1), (13, .putfield 7, 3), (16, .iload_n 1, 1), (17, .iconst 1, 1), (18, .if_icmp .ge 7, 3), (21, .iconst 0, 1), (22, .goto 14, 3), (25, .aload_n 0, 1), (26, .getfield 7, 3), (29, .bipush 33, 2), (31, .lushr, 1), (32, .iload_n 1, 1), (33, .i2l, 1), (34, .lrem, 1), (35, .l2i, 1), (36, .ireturn, 1)]
set_option maxRecDepth 100000 in
theorem dX2_next : mj_pd cX2_next pX2_next := mj_pdB (by decide +kernel)
theorem fX2_next : mj_mf mX2_next := ⟨mj_t4 61 (by decide +kernel) rfl, mj_t1 9 (by decide +kernel) rfl, by decide, by decide, by decide⟩
theorem iX2_next : Cond.instanceMethod yX2_next ∈ mj_GW := mj_t4 59 (by decide +kernel) rfl
theorem vX2_next : Cond.selects (mj_own.getD 2 "") yX2_next yX2_next ∈ mj_GW := mj_t4 60 (by decide +kernel) rfl
def mX3_empty : mj_m := (3, false, cX3_empty, 1, none, yX3_empty)
def pX3_empty : List (Nat × Instr × Nat) := [(0, .aload_n 0, 1), (1, .iconst 0, 1), (2, .putfield 36, 3), (5, .aload_n 0, 1), (6, .iconst 0, 1), (7, .putfield 40, 3), (10, .return_, 1)]
set_option maxRecDepth 100000 in
theorem dX3_empty : mj_pd cX3_empty pX3_empty := mj_pdB (by decide +kernel)
theorem fX3_empty : mj_mf mX3_empty := ⟨mj_t2 143 (by decide +kernel) rfl, mj_t1 6 (by decide +kernel) rfl, by decide, by decide, by decide⟩
theorem iX3_empty : Cond.instanceMethod yX3_empty ∈ mj_GW := mj_t2 141 (by decide +kernel) rfl
theorem vX3_empty : Cond.selects (mj_own.getD 3 "") yX3_empty yX3_empty ∈ mj_GW := mj_t2 142 (by decide +kernel) rfl
def mX3_join : mj_m := (3, false, cX3_join, 2, none, yX3_join)
def pX3_join : List (Nat × Instr × Nat) := [(0, .aload_n 0, 1), (1, .getfield 36, 3), (4, .bipush 8, 2), (6, .if_icmp .ge 10, 3), (9, .aload_n 1, 1), (10, .arraylength, 1), (11, .bipush 6, 2), (13, .if_icmp .ge 4, 3), (16, .return_, 1), (17, .aload_n 0, 1), (18, .getfield 9, 3), (21, .aload_n 0, 1), (22, .getfield 36, 3), (25, .aload_n 1, 1), (26, .iconst 0, 1), (27, .iaload, 1), (28, .iastore, 1), (29, .aload_n 0, 1), (30, .getfield 15, 3), (33, .aload_n 0, 1), (34, .getfield 36, 3), (37, .aload_n 1, 1), (38, .iconst 1, 1), (39, .iaload, 1), (40, .iastore, 1), (41, .aload_n 0, 1), (42, .getfield 18, 3), (45, .aload_n 0, 1), (46, .getfield 36, 3), (49, .aload_n 1, 1), (50, .iconst 2, 1), (51, .iaload, 1), (52, .iastore, 1), (53, .aload_n 0, 1), (54, .getfield 21, 3), (57, .aload_n 0, 1), (58, .getfield 36, 3), (61, .aload_n 1, 1), (62, .iconst 3, 1), (63, .iaload, 1), (64, .iastore, 1), (65, .aload_n 0, 1), (66, .getfield 24, 3), (69, .aload_n 0, 1), (70, .getfield 36, 3), (73, .aload_n 1, 1), (74, .iconst 4, 1), (75, .iaload, 1), (76, .iastore, 1), (77, .aload_n 0, 1), (78, .getfield 27, 3), (81, .aload_n 0, 1), (82, .getfield 36, 3), (85, .aload_n 1, 1), (86, .iconst 5, 1), (87, .iaload, 1), (88, .iconst 4, 1), (89, .if_icmp .ne 7, 3), (92, .iconst (-1), 1), (93, .goto 6, 3), (96, .aload_n 1, 1), (97, .iconst 5, 1), (98, .iaload, 1), (99, .iastore, 1), (100, .aload_n 0, 1), (101, .getfield 30, 3), (104, .aload_n 0, 1), (105, .getfield 36, 3), (108, .iconst 0, 1), (109, .iastore, 1), (110, .aload_n 0, 1), (111, .getfield 33, 3), (114, .aload_n 0, 1), (115, .getfield 36, 3), (118, .iconst 0, 1), (119, .iastore, 1), (120, .aload_n 0, 1), (121, .dup, 1), (122, .getfield 36, 3), (125, .iconst 1, 1), (126, .iadd, 1), (127, .putfield 36, 3), (130, .return_, 1)]
set_option maxRecDepth 100000 in
theorem dX3_join : mj_pd cX3_join pX3_join := mj_pdB (by decide +kernel)
theorem fX3_join : mj_mf mX3_join := ⟨mj_t3 50 (by decide +kernel) rfl, mj_t1 6 (by decide +kernel) rfl, by decide, by decide, by decide⟩
theorem iX3_join : Cond.instanceMethod yX3_join ∈ mj_GW := mj_t3 48 (by decide +kernel) rfl
theorem vX3_join : Cond.selects (mj_own.getD 3 "") yX3_join yX3_join ∈ mj_GW := mj_t3 49 (by decide +kernel) rfl
def mX3_setForDuel : mj_m := (3, false, cX3_setForDuel, 3, none, yX3_setForDuel)
def pX3_setForDuel : List (Nat × Instr × Nat) := [(0, .aload_n 0, 1), (1, .invokevirtual 43, 3), (4, .aload_n 0, 1), (5, .iconst 0, 1), (6, .iload_n 1, 1), (7, .invokevirtual 46, 3), (10, .aload_n 0, 1), (11, .iconst 1, 1), (12, .iload_n 2, 1), (13, .invokevirtual 46, 3), (16, .return_, 1)]
set_option maxRecDepth 100000 in
theorem dX3_setForDuel : mj_pd cX3_setForDuel pX3_setForDuel := mj_pdB (by decide +kernel)
theorem fX3_setForDuel : mj_mf mX3_setForDuel := ⟨mj_t4 230 (by decide +kernel) rfl, mj_t1 6 (by decide +kernel) rfl, by decide, by decide, by decide⟩
theorem iX3_setForDuel : Cond.instanceMethod yX3_setForDuel ∈ mj_GW := mj_t4 228 (by decide +kernel) rfl
theorem vX3_setForDuel : Cond.selects (mj_own.getD 3 "") yX3_setForDuel yX3_setForDuel ∈ mj_GW := mj_t4 229 (by decide +kernel) rfl
def mX3_joinDuel : mj_m := (3, false, cX3_joinDuel, 3, none, yX3_joinDuel)
def pX3_joinDuel : List (Nat × Instr × Nat) := [(0, .aload_n 0, 1), (1, .getfield 9, 3), (4, .iload_n 1, 1), (5, .iload_n 1, 1), (6, .iastore, 1), (7, .aload_n 0, 1), (8, .getfield 15, 3), (11, .iload_n 1, 1), (12, .bipush 9, 2), (14, .iastore, 1), (15, .aload_n 0, 1), (16, .getfield 18, 3), (19, .iload_n 1, 1), (20, .iconst 0, 1), (21, .iastore, 1), (22, .aload_n 0, 1), (23, .getfield 21, 3), (26, .iload_n 1, 1), (27, .iconst 2, 1), (28, .iastore, 1), (29, .aload_n 0, 1), (30, .getfield 24, 3), (33, .iload_n 1, 1), (34, .iconst 5, 1), (35, .iastore, 1), (36, .aload_n 0, 1), (37, .getfield 27, 3), (40, .iload_n 1, 1), (41, .iload_n 2, 1), (42, .iastore, 1), (43, .aload_n 0, 1), (44, .getfield 30, 3), (47, .iload_n 1, 1), (48, .iconst 0, 1), (49, .iastore, 1), (50, .aload_n 0, 1), (51, .getfield 33, 3), (54, .iload_n 1, 1), (55, .iconst 0, 1), (56, .iastore, 1), (57, .aload_n 0, 1), (58, .iload_n 1, 1), (59, .iconst 1, 1), (60, .iadd, 1), (61, .putfield 36, 3), (64, .return_, 1)]
set_option maxRecDepth 100000 in
theorem dX3_joinDuel : mj_pd cX3_joinDuel pX3_joinDuel := mj_pdB (by decide +kernel)
theorem fX3_joinDuel : mj_mf mX3_joinDuel := ⟨mj_t4 235 (by decide +kernel) rfl, mj_t1 6 (by decide +kernel) rfl, by decide, by decide, by decide⟩
theorem iX3_joinDuel : Cond.instanceMethod yX3_joinDuel ∈ mj_GW := mj_t4 234 (by decide +kernel) rfl
theorem vX3_joinDuel : Cond.selects (mj_own.getD 3 "") yX3_joinDuel yX3_joinDuel ∈ mj_GW := mj_p3 1 (by decide +kernel) rfl
def mX3_copyFrom : mj_m := (3, false, cX3_copyFrom, 3, none, yX3_copyFrom)
def pX3_copyFrom : List (Nat × Instr × Nat) := [(0, .aload_n 0, 1), (1, .aload_n 1, 1), (2, .getfield 36, 3), (5, .putfield 36, 3), (8, .aload_n 0, 1), (9, .aload_n 1, 1), (10, .getfield 40, 3), (13, .putfield 40, 3), (16, .iconst 0, 1), (17, .istore_n 2, 1), (18, .iload_n 2, 1), (19, .aload_n 0, 1), (20, .getfield 36, 3), (23, .if_icmp .ge 105, 3), (26, .aload_n 0, 1), (27, .getfield 9, 3), (30, .iload_n 2, 1), (31, .aload_n 1, 1), (32, .getfield 9, 3), (35, .iload_n 2, 1), (36, .iaload, 1), (37, .iastore, 1), (38, .aload_n 0, 1), (39, .getfield 15, 3), (42, .iload_n 2, 1), (43, .aload_n 1, 1), (44, .getfield 15, 3), (47, .iload_n 2, 1), (48, .iaload, 1), (49, .iastore, 1), (50, .aload_n 0, 1), (51, .getfield 18, 3), (54, .iload_n 2, 1), (55, .aload_n 1, 1), (56, .getfield 18, 3), (59, .iload_n 2, 1), (60, .iaload, 1), (61, .iastore, 1), (62, .aload_n 0, 1), (63, .getfield 21, 3), (66, .iload_n 2, 1), (67, .aload_n 1, 1), (68, .getfield 21, 3), (71, .iload_n 2, 1), (72, .iaload, 1), (73, .iastore, 1), (74, .aload_n 0, 1), (75, .getfield 24, 3), (78, .iload_n 2, 1), (79, .aload_n 1, 1), (80, .getfield 24, 3), (83, .iload_n 2, 1), (84, .iaload, 1), (85, .iastore, 1), (86, .aload_n 0, 1), (87, .getfield 27, 3), (90, .iload_n 2, 1), (91, .aload_n 1, 1), (92, .getfield 27, 3), (95, .iload_n 2, 1), (96, .iaload, 1), (97, .iastore, 1), (98, .aload_n 0, 1), (99, .getfield 30, 3), (102, .iload_n 2, 1), (103, .aload_n 1, 1), (104, .getfield 30, 3), (107, .iload_n 2, 1), (108, .iaload, 1), (109, .iastore, 1), (110, .aload_n 0, 1), (111, .getfield 33, 3), (114, .iload_n 2, 1), (115, .aload_n 1, 1), (116, .getfield 33, 3), (119, .iload_n 2, 1), (120, .iaload, 1), (121, .iastore, 1), (122, .iinc 2 1, 3), (125, .goto (-107), 3), (128, .return_, 1)]
set_option maxRecDepth 100000 in
theorem dX3_copyFrom : mj_pd cX3_copyFrom pX3_copyFrom := mj_pdB (by decide +kernel)
theorem fX3_copyFrom : mj_mf mX3_copyFrom := ⟨mj_t3 125 (by decide +kernel) rfl, mj_t1 6 (by decide +kernel) rfl, by decide, by decide, by decide⟩
theorem iX3_copyFrom : Cond.instanceMethod yX3_copyFrom ∈ mj_GW := mj_t3 123 (by decide +kernel) rfl
theorem vX3_copyFrom : Cond.selects (mj_own.getD 3 "") yX3_copyFrom yX3_copyFrom ∈ mj_GW := mj_t3 124 (by decide +kernel) rfl
def mX3_writeTo : mj_m := (3, false, cX3_writeTo, 5, none, yX3_writeTo)
def pX3_writeTo : List (Nat × Instr × Nat) := [(0, .aload_n 1, 1), (1, .iload_n 2, 1), (2, .aload_n 0, 1), (3, .getfield 40, 3), (6, .iastore, 1), (7, .iload_n 2, 1), (8, .iconst 1, 1), (9, .iadd, 1), (10, .istore_n 3, 1), (11, .iconst 0, 1), (12, .istore 4, 2), (14, .iload 4, 2), (16, .bipush 8, 2), (18, .if_icmp .ge 82, 3), (21, .aload_n 1, 1), (22, .iload_n 3, 1), (23, .aload_n 0, 1), (24, .getfield 9, 3), (27, .iload 4, 2), (29, .iaload, 1), (30, .iastore, 1), (31, .aload_n 1, 1), (32, .iload_n 3, 1), (33, .iconst 1, 1), (34, .iadd, 1), (35, .aload_n 0, 1), (36, .getfield 15, 3), (39, .iload 4, 2), (41, .iaload, 1), (42, .iastore, 1), (43, .aload_n 1, 1), (44, .iload_n 3, 1), (45, .iconst 2, 1), (46, .iadd, 1), (47, .aload_n 0, 1), (48, .getfield 18, 3), (51, .iload 4, 2), (53, .iaload, 1), (54, .iastore, 1), (55, .aload_n 1, 1), (56, .iload_n 3, 1), (57, .iconst 3, 1), (58, .iadd, 1), (59, .aload_n 0, 1), (60, .getfield 27, 3), (63, .iload 4, 2), (65, .iaload, 1), (66, .iastore, 1), (67, .aload_n 1, 1), (68, .iload_n 3, 1), (69, .iconst 4, 1), (70, .iadd, 1), (71, .aload_n 0, 1), (72, .getfield 30, 3), (75, .iload 4, 2), (77, .iaload, 1), (78, .iastore, 1), (79, .aload_n 1, 1), (80, .iload_n 3, 1), (81, .iconst 5, 1), (82, .iadd, 1), (83, .aload_n 0, 1), (84, .getfield 33, 3), (87, .iload 4, 2), (89, .iaload, 1), (90, .iastore, 1), (91, .iinc 3 6, 3), (94, .iinc 4 1, 3), (97, .goto (-83), 3), (100, .return_, 1)]
set_option maxRecDepth 100000 in
theorem dX3_writeTo : mj_pd cX3_writeTo pX3_writeTo := mj_pdB (by decide +kernel)
theorem fX3_writeTo : mj_mf mX3_writeTo := ⟨mj_t3 166 (by decide +kernel) rfl, mj_t1 6 (by decide +kernel) rfl, by decide, by decide, by decide⟩
theorem iX3_writeTo : Cond.instanceMethod yX3_writeTo ∈ mj_GW := mj_t3 164 (by decide +kernel) rfl
theorem vX3_writeTo : Cond.selects (mj_own.getD 3 "") yX3_writeTo yX3_writeTo ∈ mj_GW := mj_t3 165 (by decide +kernel) rfl
def mX3_readFrom : mj_m := (3, false, cX3_readFrom, 5, none, yX3_readFrom)
def pX3_readFrom : List (Nat × Instr × Nat) := [(0, .aload_n 0, 1), (1, .aload_n 1, 1), (2, .iload_n 2, 1), (3, .iaload, 1), (4, .putfield 40, 3), (7, .iload_n 2, 1), (8, .iconst 1, 1), (9, .iadd, 1), (10, .istore_n 3, 1), (11, .iconst 0, 1), (12, .istore 4, 2), (14, .iload 4, 2), (16, .bipush 8, 2), (18, .if_icmp .ge 82, 3), (21, .aload_n 0, 1), (22, .getfield 9, 3), (25, .iload 4, 2), (27, .aload_n 1, 1), (28, .iload_n 3, 1), (29, .iaload, 1), (30, .iastore, 1), (31, .aload_n 0, 1), (32, .getfield 15, 3), (35, .iload 4, 2), (37, .aload_n 1, 1), (38, .iload_n 3, 1), (39, .iconst 1, 1), (40, .iadd, 1), (41, .iaload, 1), (42, .iastore, 1), (43, .aload_n 0, 1), (44, .getfield 18, 3), (47, .iload 4, 2), (49, .aload_n 1, 1), (50, .iload_n 3, 1), (51, .iconst 2, 1), (52, .iadd, 1), (53, .iaload, 1), (54, .iastore, 1), (55, .aload_n 0, 1), (56, .getfield 27, 3), (59, .iload 4, 2), (61, .aload_n 1, 1), (62, .iload_n 3, 1), (63, .iconst 3, 1), (64, .iadd, 1), (65, .iaload, 1), (66, .iastore, 1), (67, .aload_n 0, 1), (68, .getfield 30, 3), (71, .iload 4, 2), (73, .aload_n 1, 1), (74, .iload_n 3, 1), (75, .iconst 4, 1), (76, .iadd, 1), (77, .iaload, 1), (78, .iastore, 1), (79, .aload_n 0, 1), (80, .getfield 33, 3), (83, .iload 4, 2), (85, .aload_n 1, 1), (86, .iload_n 3, 1), (87, .iconst 5, 1), (88, .iadd, 1), (89, .iaload, 1), (90, .iastore, 1), (91, .iinc 3 6, 3), (94, .iinc 4 1, 3), (97, .goto (-83), 3), (100, .return_, 1)]
set_option maxRecDepth 100000 in
theorem dX3_readFrom : mj_pd cX3_readFrom pX3_readFrom := mj_pdB (by decide +kernel)
theorem fX3_readFrom : mj_mf mX3_readFrom := ⟨mj_t4 75 (by decide +kernel) rfl, mj_t1 6 (by decide +kernel) rfl, by decide, by decide, by decide⟩
theorem iX3_readFrom : Cond.instanceMethod yX3_readFrom ∈ mj_GW := mj_t4 73 (by decide +kernel) rfl
theorem vX3_readFrom : Cond.selects (mj_own.getD 3 "") yX3_readFrom yX3_readFrom ∈ mj_GW := mj_t4 74 (by decide +kernel) rfl
def mX3_scatter : mj_m := (3, false, cX3_scatter, 8, none, yX3_scatter)
def pX3_scatter : List (Nat × Instr × Nat) := [(0, .aload_n 0, 1), (1, .getfield 36, 3), (4, .istore_n 3, 1), (5, .iconst 0, 1), (6, .istore 4, 2), (8, .iload 4, 2), (10, .iload_n 3, 1), (11, .if_icmp .ge 139, 3), (14, .aload_n 0, 1), (15, .iload 4, 2), (17, .putfield 36, 3), (20, .iconst 5, 1), (21, .aload_n 1, 1), (22, .bipush 10, 2), (24, .invokevirtual 50, 3), (27, .iadd, 1), (28, .istore 5, 2), (30, .aload_n 1, 1), (31, .iload_n 2, 1), (32, .invokevirtual 50, 3), (35, .istore 6, 2), (37, .iconst 0, 1), (38, .istore 7, 2), (40, .iload 7, 2), (42, .bipush 8, 2), (44, .if_icmp .ge 22, 3), (47, .aload_n 0, 1), (48, .iload 5, 2), (50, .iload_n 2, 1), (51, .invokevirtual 56, 3), (54, .ifCond .eq 12, 3), (57, .iinc 5 1, 3), (60, .iinc 7 1, 3), (63, .goto (-23), 3), (66, .iconst 0, 1), (67, .istore 7, 2), (69, .iload 7, 2), (71, .iload_n 2, 1), (72, .if_icmp .ge 38, 3), (75, .aload_n 0, 1), (76, .iload 6, 2), (78, .iload 5, 2), (80, .invokevirtual 60, 3), (83, .ifCond .eq 27, 3), (86, .iload 6, 2), (88, .iconst 1, 1), (89, .iadd, 1), (90, .iload_n 2, 1), (91, .if_icmp .ge 10, 3), (94, .iload 6, 2), (96, .iconst 1, 1), (97, .iadd, 1), (98, .goto 4, 3), (101, .iconst 0, 1), (102, .istore 6, 2), (104, .iinc 7 1, 3), (107, .goto (-38), 3), (110, .aload_n 0, 1), (111, .getfield 9, 3), (114, .iload 4, 2), (116, .iload 6, 2), (118, .iastore, 1), (119, .aload_n 0, 1), (120, .getfield 15, 3), (123, .iload 4, 2), (125, .iload 5, 2), (127, .iastore, 1), (128, .aload_n 0, 1), (129, .getfield 30, 3), (132, .iload 4, 2), (134, .iconst 0, 1), (135, .iastore, 1), (136, .aload_n 0, 1), (137, .getfield 33, 3), (140, .iload 4, 2), (142, .iconst 0, 1), (143, .iastore, 1), (144, .iinc 4 1, 3), (147, .goto (-139), 3), (150, .aload_n 0, 1), (151, .iload_n 3, 1), (152, .putfield 36, 3), (155, .return_, 1)]
set_option maxRecDepth 100000 in
theorem dX3_scatter : mj_pd cX3_scatter pX3_scatter := mj_pdB (by decide +kernel)
theorem fX3_scatter : mj_mf mX3_scatter := ⟨mj_t5 48 (by decide +kernel) rfl, mj_t1 6 (by decide +kernel) rfl, by decide, by decide, by decide⟩
theorem iX3_scatter : Cond.instanceMethod yX3_scatter ∈ mj_GW := mj_t5 46 (by decide +kernel) rfl
theorem vX3_scatter : Cond.selects (mj_own.getD 3 "") yX3_scatter yX3_scatter ∈ mj_GW := mj_t5 47 (by decide +kernel) rfl
def mX3_isRowFull : mj_m := (3, false, cX3_isRowFull, 5, some .boolean, yX3_isRowFull)
def pX3_isRowFull : List (Nat × Instr × Nat) := [(0, .iconst 0, 1), (1, .istore_n 3, 1), (2, .iconst 0, 1), (3, .istore 4, 2), (5, .iload 4, 2), (7, .aload_n 0, 1), (8, .getfield 36, 3), (11, .if_icmp .ge 23, 3), (14, .aload_n 0, 1), (15, .getfield 15, 3), (18, .iload 4, 2), (20, .iaload, 1), (21, .iload_n 1, 1), (22, .if_icmp .ne 6, 3), (25, .iinc 3 1, 3), (28, .iinc 4 1, 3), (31, .goto (-26), 3), (34, .iload_n 3, 1), (35, .iload_n 2, 1), (36, .if_icmp .lt 7, 3), (39, .iconst 1, 1), (40, .goto 4, 3), (43, .iconst 0, 1), (44, .ireturn, 1)]
set_option maxRecDepth 100000 in
theorem dX3_isRowFull : mj_pd cX3_isRowFull pX3_isRowFull := mj_pdB (by decide +kernel)
theorem fX3_isRowFull : mj_mf mX3_isRowFull := ⟨mj_t5 53 (by decide +kernel) rfl, mj_t1 6 (by decide +kernel) rfl, by decide, by decide, by decide⟩
theorem iX3_isRowFull : Cond.instanceMethod yX3_isRowFull ∈ mj_GW := mj_t5 52 (by decide +kernel) rfl
theorem vX3_isRowFull : Cond.selects (mj_own.getD 3 "") yX3_isRowFull yX3_isRowFull ∈ mj_GW := mj_p3 2 (by decide +kernel) rfl
def mX3_isHeld : mj_m := (3, false, cX3_isHeld, 4, some .boolean, yX3_isHeld)
def pX3_isHeld : List (Nat × Instr × Nat) := [(0, .iconst 0, 1), (1, .istore_n 3, 1), (2, .iload_n 3, 1), (3, .aload_n 0, 1), (4, .getfield 36, 3), (7, .if_icmp .ge 31, 3), (10, .aload_n 0, 1), (11, .getfield 9, 3), (14, .iload_n 3, 1), (15, .iaload, 1), (16, .iload_n 1, 1), (17, .if_icmp .ne 15, 3), (20, .aload_n 0, 1), (21, .getfield 15, 3), (24, .iload_n 3, 1), (25, .iaload, 1), (26, .iload_n 2, 1), (27, .if_icmp .ne 5, 3), (30, .iconst 1, 1), (31, .ireturn, 1), (32, .iinc 3 1, 3), (35, .goto (-33), 3), (38, .iconst 0, 1), (39, .ireturn, 1)]
set_option maxRecDepth 100000 in
theorem dX3_isHeld : mj_pd cX3_isHeld pX3_isHeld := mj_pdB (by decide +kernel)
theorem fX3_isHeld : mj_mf mX3_isHeld := ⟨mj_t3 183 (by decide +kernel) rfl, mj_t1 6 (by decide +kernel) rfl, by decide, by decide, by decide⟩
theorem iX3_isHeld : Cond.instanceMethod yX3_isHeld ∈ mj_GW := mj_t3 181 (by decide +kernel) rfl
theorem vX3_isHeld : Cond.selects (mj_own.getD 3 "") yX3_isHeld yX3_isHeld ∈ mj_GW := mj_t3 182 (by decide +kernel) rfl
def mX3_isLeewardHeld : mj_m := (3, false, cX3_isLeewardHeld, 2, some .boolean, yX3_isLeewardHeld)
def pX3_isLeewardHeld : List (Nat × Instr × Nat) := [(0, .aload_n 0, 1), (1, .getfield 9, 3), (4, .iload_n 1, 1), (5, .iaload, 1), (6, .ifCond .le 28, 3), (9, .aload_n 0, 1), (10, .aload_n 0, 1), (11, .getfield 9, 3), (14, .iload_n 1, 1), (15, .iaload, 1), (16, .iconst 1, 1), (17, .isub, 1), (18, .aload_n 0, 1), (19, .getfield 15, 3), (22, .iload_n 1, 1), (23, .iaload, 1), (24, .invokevirtual 60, 3), (27, .ifCond .eq 7, 3), (30, .iconst 1, 1), (31, .goto 4, 3), (34, .iconst 0, 1), (35, .ireturn, 1)]
set_option maxRecDepth 100000 in
theorem dX3_isLeewardHeld : mj_pd cX3_isLeewardHeld pX3_isLeewardHeld := mj_pdB (by decide +kernel)
theorem fX3_isLeewardHeld : mj_mf mX3_isLeewardHeld := ⟨mj_t3 236 (by decide +kernel) rfl, mj_t1 6 (by decide +kernel) rfl, by decide, by decide, by decide⟩
theorem iX3_isLeewardHeld : Cond.instanceMethod yX3_isLeewardHeld ∈ mj_GW := mj_t3 234 (by decide +kernel) rfl
theorem vX3_isLeewardHeld : Cond.selects (mj_own.getD 3 "") yX3_isLeewardHeld yX3_isLeewardHeld ∈ mj_GW := mj_t3 235 (by decide +kernel) rfl
def mX3_isShadowed : mj_m := (3, false, cX3_isShadowed, 4, some .boolean, yX3_isShadowed)
def pX3_isShadowed : List (Nat × Instr × Nat) := [(0, .iconst 0, 1), (1, .istore_n 2, 1), (2, .iload_n 2, 1), (3, .aload_n 0, 1), (4, .getfield 36, 3), (7, .if_icmp .ge 44, 3), (10, .aload_n 0, 1), (11, .getfield 15, 3), (14, .iload_n 1, 1), (15, .iaload, 1), (16, .aload_n 0, 1), (17, .getfield 15, 3), (20, .iload_n 2, 1), (21, .iaload, 1), (22, .isub, 1), (23, .istore_n 3, 1), (24, .iload_n 3, 1), (25, .iconst 1, 1), (26, .if_icmp .lt 19, 3), (29, .iload_n 3, 1), (30, .iconst 3, 1), (31, .if_icmp .gt 14, 3), (34, .aload_n 0, 1), (35, .iload_n 1, 1), (36, .iload_n 2, 1), (37, .invokevirtual 63, 3), (40, .ifCond .eq 5, 3), (43, .iconst 1, 1), (44, .ireturn, 1), (45, .iinc 2 1, 3), (48, .goto (-46), 3), (51, .iconst 0, 1), (52, .ireturn, 1)]
set_option maxRecDepth 100000 in
theorem dX3_isShadowed : mj_pd cX3_isShadowed pX3_isShadowed := mj_pdB (by decide +kernel)
theorem fX3_isShadowed : mj_mf mX3_isShadowed := ⟨mj_t3 211 (by decide +kernel) rfl, mj_t1 6 (by decide +kernel) rfl, by decide, by decide, by decide⟩
theorem iX3_isShadowed : Cond.instanceMethod yX3_isShadowed ∈ mj_GW := mj_t3 209 (by decide +kernel) rfl
theorem vX3_isShadowed : Cond.selects (mj_own.getD 3 "") yX3_isShadowed yX3_isShadowed ∈ mj_GW := mj_t3 210 (by decide +kernel) rfl
def mX3_countBeside : mj_m := (3, false, cX3_countBeside, 4, some .int, yX3_countBeside)
def pX3_countBeside : List (Nat × Instr × Nat) := [(0, .iconst 0, 1), (1, .istore_n 2, 1), (2, .iconst 0, 1), (3, .istore_n 3, 1), (4, .iload_n 3, 1), (5, .aload_n 0, 1), (6, .getfield 36, 3), (9, .if_icmp .ge 26, 3), (12, .iload_n 3, 1), (13, .iload_n 1, 1), (14, .if_icmp .eq 15, 3), (17, .aload_n 0, 1), (18, .iload_n 1, 1), (19, .iload_n 3, 1), (20, .invokevirtual 63, 3), (23, .ifCond .eq 6, 3), (26, .iinc 2 1, 3), (29, .iinc 3 1, 3), (32, .goto (-28), 3), (35, .iload_n 2, 1), (36, .ireturn, 1)]
set_option maxRecDepth 100000 in
theorem dX3_countBeside : mj_pd cX3_countBeside pX3_countBeside := mj_pdB (by decide +kernel)
theorem fX3_countBeside : mj_mf mX3_countBeside := ⟨mj_t3 232 (by decide +kernel) rfl, mj_t1 6 (by decide +kernel) rfl, by decide, by decide, by decide⟩
theorem iX3_countBeside : Cond.instanceMethod yX3_countBeside ∈ mj_GW := mj_t3 230 (by decide +kernel) rfl
theorem vX3_countBeside : Cond.selects (mj_own.getD 3 "") yX3_countBeside yX3_countBeside ∈ mj_GW := mj_t3 231 (by decide +kernel) rfl
def mX3_isBeside : mj_m := (3, false, cX3_isBeside, 4, some .boolean, yX3_isBeside)
def pX3_isBeside : List (Nat × Instr × Nat) := [(0, .aload_n 0, 1), (1, .getfield 9, 3), (4, .iload_n 1, 1), (5, .iaload, 1), (6, .aload_n 0, 1), (7, .getfield 9, 3), (10, .iload_n 2, 1), (11, .iaload, 1), (12, .isub, 1), (13, .istore_n 3, 1), (14, .iload_n 3, 1), (15, .iconst (-1), 1), (16, .if_icmp .lt 12, 3), (19, .iload_n 3, 1), (20, .iconst 1, 1), (21, .if_icmp .gt 7, 3), (24, .iconst 1, 1), (25, .goto 4, 3), (28, .iconst 0, 1), (29, .ireturn, 1)]
set_option maxRecDepth 100000 in
theorem dX3_isBeside : mj_pd cX3_isBeside pX3_isBeside := mj_pdB (by decide +kernel)
theorem fX3_isBeside : mj_mf mX3_isBeside := ⟨mj_t3 215 (by decide +kernel) rfl, mj_t1 6 (by decide +kernel) rfl, by decide, by decide, by decide⟩
theorem iX3_isBeside : Cond.instanceMethod yX3_isBeside ∈ mj_GW := mj_t3 214 (by decide +kernel) rfl
theorem vX3_isBeside : Cond.selects (mj_own.getD 3 "") yX3_isBeside yX3_isBeside ∈ mj_GW := mj_p2 4 (by decide +kernel) rfl
def mX3_believedBack : mj_m := (3, false, cX3_believedBack, 2, some .int, yX3_believedBack)
def pX3_believedBack : List (Nat × Instr × Nat) := [(0, .aload_n 0, 1), (1, .getfield 30, 3), (4, .iload_n 1, 1), (5, .iaload, 1), (6, .iconst 1, 1), (7, .if_icmp .ne 12, 3), (10, .aload_n 0, 1), (11, .getfield 15, 3), (14, .iload_n 1, 1), (15, .iaload, 1), (16, .goto 18, 3), (19, .aload_n 0, 1), (20, .getfield 15, 3), (23, .iload_n 1, 1), (24, .iaload, 1), (25, .iconst 5, 1), (26, .iadd, 1), (27, .aload_n 0, 1), (28, .getfield 24, 3), (31, .iload_n 1, 1), (32, .iaload, 1), (33, .isub, 1), (34, .ireturn, 1)]
set_option maxRecDepth 100000 in
theorem dX3_believedBack : mj_pd cX3_believedBack pX3_believedBack := mj_pdB (by decide +kernel)
theorem fX3_believedBack : mj_mf mX3_believedBack := ⟨mj_t3 227 (by decide +kernel) rfl, mj_t1 6 (by decide +kernel) rfl, by decide, by decide, by decide⟩
theorem iX3_believedBack : Cond.instanceMethod yX3_believedBack ∈ mj_GW := mj_t3 225 (by decide +kernel) rfl
theorem vX3_believedBack : Cond.selects (mj_own.getD 3 "") yX3_believedBack yX3_believedBack ∈ mj_GW := mj_t3 226 (by decide +kernel) rfl
def mX3_speedUp : mj_m := (3, false, cX3_speedUp, 2, none, yX3_speedUp)
def pX3_speedUp : List (Nat × Instr × Nat) := [(0, .aload_n 0, 1), (1, .getfield 18, 3), (4, .iload_n 1, 1), (5, .iaload, 1), (6, .aload_n 0, 1), (7, .getfield 21, 3), (10, .iload_n 1, 1), (11, .iaload, 1), (12, .if_icmp .ge 13, 3), (15, .aload_n 0, 1), (16, .getfield 18, 3), (19, .iload_n 1, 1), (20, .dup2, 1), (21, .iaload, 1), (22, .iconst 1, 1), (23, .iadd, 1), (24, .iastore, 1), (25, .return_, 1)]
set_option maxRecDepth 100000 in
theorem dX3_speedUp : mj_pd cX3_speedUp pX3_speedUp := mj_pdB (by decide +kernel)
theorem fX3_speedUp : mj_mf mX3_speedUp := ⟨mj_t4 19 (by decide +kernel) rfl, mj_t1 6 (by decide +kernel) rfl, by decide, by decide, by decide⟩
theorem iX3_speedUp : Cond.instanceMethod yX3_speedUp ∈ mj_GW := mj_t4 17 (by decide +kernel) rfl
theorem vX3_speedUp : Cond.selects (mj_own.getD 3 "") yX3_speedUp yX3_speedUp ∈ mj_GW := mj_t4 18 (by decide +kernel) rfl
def mX3_slowDown : mj_m := (3, false, cX3_slowDown, 2, none, yX3_slowDown)
def pX3_slowDown : List (Nat × Instr × Nat) := [(0, .aload_n 0, 1), (1, .getfield 18, 3), (4, .iload_n 1, 1), (5, .iaload, 1), (6, .ifCond .le 13, 3), (9, .aload_n 0, 1), (10, .getfield 18, 3), (13, .iload_n 1, 1), (14, .dup2, 1), (15, .iaload, 1), (16, .iconst 1, 1), (17, .isub, 1), (18, .iastore, 1), (19, .return_, 1)]
set_option maxRecDepth 100000 in
theorem dX3_slowDown : mj_pd cX3_slowDown pX3_slowDown := mj_pdB (by decide +kernel)
theorem fX3_slowDown : mj_mf mX3_slowDown := ⟨mj_t4 23 (by decide +kernel) rfl, mj_t1 6 (by decide +kernel) rfl, by decide, by decide, by decide⟩
theorem iX3_slowDown : Cond.instanceMethod yX3_slowDown ∈ mj_GW := mj_t4 21 (by decide +kernel) rfl
theorem vX3_slowDown : Cond.selects (mj_own.getD 3 "") yX3_slowDown yX3_slowDown ∈ mj_GW := mj_t4 22 (by decide +kernel) rfl
def mX4_passSecond : mj_m := (4, false, cX4_passSecond, 3, none, yX4_passSecond)
def pX4_passSecond : List (Nat × Instr × Nat) := [(0, .aload_n 0, 1), (1, .aload_n 2, 1), (2, .invokevirtual 27, 3), (5, .aload_n 0, 1), (6, .aload_n 1, 1), (7, .aload_n 2, 1), (8, .iconst (-1), 1), (9, .invokevirtual 31, 3), (12, .aload_n 0, 1), (13, .aload_n 1, 1), (14, .aload_n 2, 1), (15, .invokevirtual 35, 3), (18, .return_, 1)]
set_option maxRecDepth 100000 in
theorem dX4_passSecond : mj_pd cX4_passSecond pX4_passSecond := mj_pdB (by decide +kernel)
theorem fX4_passSecond : mj_mf mX4_passSecond := ⟨mj_t3 203 (by decide +kernel) rfl, mj_t1 8 (by decide +kernel) rfl, by decide, by decide, by decide⟩
theorem iX4_passSecond : Cond.instanceMethod yX4_passSecond ∈ mj_GW := mj_t3 201 (by decide +kernel) rfl
theorem vX4_passSecond : Cond.selects (mj_own.getD 4 "") yX4_passSecond yX4_passSecond ∈ mj_GW := mj_t3 202 (by decide +kernel) rfl
def mX4_passGustySecond : mj_m := (4, false, cX4_passGustySecond, 5, none, yX4_passGustySecond)
def pX4_passGustySecond : List (Nat × Instr × Nat) := [(0, .aload_n 0, 1), (1, .aload_n 2, 1), (2, .invokevirtual 27, 3), (5, .aload_n 0, 1), (6, .aload_n 1, 1), (7, .aload_n 2, 1), (8, .iconst (-1), 1), (9, .invokevirtual 31, 3), (12, .aload_n 0, 1), (13, .aload_n 2, 1), (14, .aload_n 3, 1), (15, .iload 4, 2), (17, .invokevirtual 39, 3), (20, .aload_n 0, 1), (21, .aload_n 1, 1), (22, .aload_n 2, 1), (23, .invokevirtual 35, 3), (26, .return_, 1)]
set_option maxRecDepth 100000 in
theorem dX4_passGustySecond : mj_pd cX4_passGustySecond pX4_passGustySecond := mj_pdB (by decide +kernel)
theorem fX4_passGustySecond : mj_mf mX4_passGustySecond := ⟨mj_t4 53 (by decide +kernel) rfl, mj_t1 8 (by decide +kernel) rfl, by decide, by decide, by decide⟩
theorem iX4_passGustySecond : Cond.instanceMethod yX4_passGustySecond ∈ mj_GW := mj_t4 51 (by decide +kernel) rfl
theorem vX4_passGustySecond : Cond.selects (mj_own.getD 4 "") yX4_passGustySecond yX4_passGustySecond ∈ mj_GW := mj_t4 52 (by decide +kernel) rfl
def mX4_passToGun : mj_m := (4, false, cX4_passToGun, 5, none, yX4_passToGun)
def pX4_passToGun : List (Nat × Instr × Nat) := [(0, .aload_n 1, 1), (1, .aload_n 2, 1), (2, .invokevirtual 43, 3), (5, .istore_n 3, 1), (6, .iconst 0, 1), (7, .istore 4, 2), (9, .iload 4, 2), (11, .iload_n 3, 1), (12, .if_icmp .ge 15, 3), (15, .aload_n 0, 1), (16, .aload_n 1, 1), (17, .aload_n 2, 1), (18, .invokevirtual 49, 3), (21, .iinc 4 1, 3), (24, .goto (-15), 3), (27, .return_, 1)]
set_option maxRecDepth 100000 in
theorem dX4_passToGun : mj_pd cX4_passToGun pX4_passToGun := mj_pdB (by decide +kernel)
theorem fX4_passToGun : mj_mf mX4_passToGun := ⟨mj_t4 84 (by decide +kernel) rfl, mj_t1 8 (by decide +kernel) rfl, by decide, by decide, by decide⟩
theorem iX4_passToGun : Cond.instanceMethod yX4_passToGun ∈ mj_GW := mj_t4 82 (by decide +kernel) rfl
theorem vX4_passToGun : Cond.selects (mj_own.getD 4 "") yX4_passToGun yX4_passToGun ∈ mj_GW := mj_t4 83 (by decide +kernel) rfl
def mX4_passHeldSecond : mj_m := (4, false, cX4_passHeldSecond, 4, none, yX4_passHeldSecond)
def pX4_passHeldSecond : List (Nat × Instr × Nat) := [(0, .aload_n 0, 1), (1, .aload_n 2, 1), (2, .invokevirtual 27, 3), (5, .aload_n 0, 1), (6, .aload_n 1, 1), (7, .aload_n 2, 1), (8, .iload_n 3, 1), (9, .invokevirtual 31, 3), (12, .aload_n 2, 1), (13, .getfield 52, 3), (16, .iload_n 3, 1), (17, .iconst 0, 1), (18, .iastore, 1), (19, .aload_n 0, 1), (20, .aload_n 1, 1), (21, .aload_n 2, 1), (22, .invokevirtual 35, 3), (25, .return_, 1)]
set_option maxRecDepth 100000 in
theorem dX4_passHeldSecond : mj_pd cX4_passHeldSecond pX4_passHeldSecond := mj_pdB (by decide +kernel)
theorem fX4_passHeldSecond : mj_mf mX4_passHeldSecond := ⟨mj_t4 131 (by decide +kernel) rfl, mj_t1 8 (by decide +kernel) rfl, by decide, by decide, by decide⟩
theorem iX4_passHeldSecond : Cond.instanceMethod yX4_passHeldSecond ∈ mj_GW := mj_t4 129 (by decide +kernel) rfl
theorem vX4_passHeldSecond : Cond.selects (mj_own.getD 4 "") yX4_passHeldSecond yX4_passHeldSecond ∈ mj_GW := mj_t4 130 (by decide +kernel) rfl
def mX4_passToGunReleased : mj_m := (4, false, cX4_passToGunReleased, 6, none, yX4_passToGunReleased)
def pX4_passToGunReleased : List (Nat × Instr × Nat) := [(0, .aload_n 1, 1), (1, .aload_n 2, 1), (2, .invokevirtual 43, 3), (5, .istore 4, 2), (7, .iconst 0, 1), (8, .istore 5, 2), (10, .iload 5, 2), (12, .iload 4, 2), (14, .if_icmp .ge 32, 3), (17, .aload_n 0, 1), (18, .aload_n 2, 1), (19, .invokevirtual 27, 3), (22, .aload_n 0, 1), (23, .aload_n 1, 1), (24, .aload_n 2, 1), (25, .iload_n 3, 1), (26, .invokevirtual 31, 3), (29, .aload_n 2, 1), (30, .iload_n 3, 1), (31, .invokevirtual 57, 3), (34, .aload_n 0, 1), (35, .aload_n 1, 1), (36, .aload_n 2, 1), (37, .invokevirtual 35, 3), (40, .iinc 5 1, 3), (43, .goto (-33), 3), (46, .return_, 1)]
set_option maxRecDepth 100000 in
theorem dX4_passToGunReleased : mj_pd cX4_passToGunReleased pX4_passToGunReleased := mj_pdB (by decide +kernel)
theorem fX4_passToGunReleased : mj_mf mX4_passToGunReleased := ⟨mj_t4 127 (by decide +kernel) rfl, mj_t1 8 (by decide +kernel) rfl, by decide, by decide, by decide⟩
theorem iX4_passToGunReleased : Cond.instanceMethod yX4_passToGunReleased ∈ mj_GW := mj_t4 125 (by decide +kernel) rfl
theorem vX4_passToGunReleased : Cond.selects (mj_own.getD 4 "") yX4_passToGunReleased yX4_passToGunReleased ∈ mj_GW := mj_t4 126 (by decide +kernel) rfl
def mX4_look : mj_m := (4, false, cX4_look, 4, none, yX4_look)
def pX4_look : List (Nat × Instr × Nat) := [(0, .iconst 0, 1), (1, .istore_n 2, 1), (2, .iload_n 2, 1), (3, .aload_n 1, 1), (4, .getfield 61, 3), (7, .if_icmp .ge 83, 3), (10, .aload_n 0, 1), (11, .getfield 17, 3), (14, .iload_n 2, 1), (15, .aload_n 1, 1), (16, .iload_n 2, 1), (17, .invokevirtual 65, 3), (20, .ifCond .eq 7, 3), (23, .iconst 1, 1), (24, .goto 4, 3), (27, .iconst 0, 1), (28, .iastore, 1), (29, .iload_n 2, 1), (30, .istore_n 3, 1), (31, .iload_n 3, 1), (32, .ifCond .le 45, 3), (35, .aload_n 1, 1), (36, .getfield 69, 3), (39, .aload_n 0, 1), (40, .getfield 20, 3), (43, .iload_n 3, 1), (44, .iconst 1, 1), (45, .isub, 1), (46, .iaload, 1), (47, .iaload, 1), (48, .aload_n 1, 1), (49, .getfield 69, 3), (52, .iload_n 2, 1), (53, .iaload, 1), (54, .if_icmp .le 23, 3), (57, .aload_n 0, 1), (58, .getfield 20, 3), (61, .iload_n 3, 1), (62, .aload_n 0, 1), (63, .getfield 20, 3), (66, .iload_n 3, 1), (67, .iconst 1, 1), (68, .isub, 1), (69, .iaload, 1), (70, .iastore, 1), (71, .iinc 3 (-1), 3), (74, .goto (-43), 3), (77, .aload_n 0, 1), (78, .getfield 20, 3), (81, .iload_n 3, 1), (82, .iload_n 2, 1), (83, .iastore, 1), (84, .iinc 2 1, 3), (87, .goto (-85), 3), (90, .return_, 1)]
set_option maxRecDepth 100000 in
theorem dX4_look : mj_pd cX4_look pX4_look := mj_pdB (by decide +kernel)
theorem fX4_look : mj_mf mX4_look := ⟨mj_t3 207 (by decide +kernel) rfl, mj_t1 8 (by decide +kernel) rfl, by decide, by decide, by decide⟩
theorem iX4_look : Cond.instanceMethod yX4_look ∈ mj_GW := mj_t3 206 (by decide +kernel) rfl
theorem vX4_look : Cond.selects (mj_own.getD 4 "") yX4_look yX4_look ∈ mj_GW := mj_p2 3 (by decide +kernel) rfl
def mX4_askRules : mj_m := (4, false, cX4_askRules, 6, none, yX4_askRules)
def pX4_askRules : List (Nat × Instr × Nat) := [(0, .iconst 0, 1), (1, .istore 4, 2), (3, .iload 4, 2), (5, .aload_n 2, 1), (6, .getfield 61, 3), (9, .if_icmp .ge 175, 3), (12, .iload 4, 2), (14, .iload_n 3, 1), (15, .if_icmp .eq 163, 3), (18, .aload_n 0, 1), (19, .getfield 23, 3), (22, .aload_n 2, 1), (23, .getfield 72, 3), (26, .iload 4, 2), (28, .iaload, 1), (29, .invokevirtual 75, 3), (32, .ifCond .ne 6, 3), (35, .goto 143, 3), (38, .aload_n 0, 1), (39, .getfield 11, 3), (42, .iconst 0, 1), (43, .aload_n 2, 1), (44, .iload 4, 2), (46, .invokevirtual 78, 3), (49, .iastore, 1), (50, .aload_n 0, 1), (51, .getfield 11, 3), (54, .iconst 1, 1), (55, .aload_n 1, 1), (56, .aload_n 2, 1), (57, .invokevirtual 43, 3), (60, .iastore, 1), (61, .aload_n 0, 1), (62, .getfield 11, 3), (65, .iconst 2, 1), (66, .aload_n 2, 1), (67, .getfield 52, 3), (70, .iload 4, 2), (72, .iaload, 1), (73, .iastore, 1), (74, .aload_n 0, 1), (75, .getfield 11, 3), (78, .iconst 3, 1), (79, .aload_n 2, 1), (80, .getfield 82, 3), (83, .iload 4, 2), (85, .iaload, 1), (86, .iastore, 1), (87, .aload_n 0, 1), (88, .getfield 11, 3), (91, .iconst 4, 1), (92, .aload_n 2, 1), (93, .iload 4, 2), (95, .invokevirtual 85, 3), (98, .iastore, 1), (99, .aload_n 0, 1), (100, .getfield 11, 3), (103, .iconst 5, 1), (104, .aload_n 0, 1), (105, .getfield 17, 3), (108, .iload 4, 2), (110, .iaload, 1), (111, .iastore, 1), (112, .aload_n 0, 1), (113, .getfield 11, 3), (116, .bipush 6, 2), (118, .aload_n 2, 1), (119, .iload 4, 2), (121, .invokevirtual 88, 3), (124, .ifCond .eq 7, 3), (127, .iconst 1, 1), (128, .goto 4, 3), (131, .iconst 0, 1), (132, .iastore, 1), (133, .aload_n 0, 1), (134, .getfield 23, 3), (137, .aload_n 2, 1), (138, .getfield 72, 3), (141, .iload 4, 2), (143, .iaload, 1), (144, .aload_n 0, 1), (145, .getfield 11, 3), (148, .invokevirtual 91, 3), (151, .istore 5, 2), (153, .iload 5, 2), (155, .ifCond .le 12, 3), (158, .aload_n 2, 1), (159, .iload 4, 2), (161, .invokevirtual 57, 3), (164, .goto 14, 3), (167, .iload 5, 2), (169, .ifCond .ge 9, 3), (172, .aload_n 2, 1), (173, .iload 4, 2), (175, .invokevirtual 95, 3), (178, .iinc 4 1, 3), (181, .goto (-178), 3), (184, .return_, 1)]
set_option maxRecDepth 100000 in
theorem dX4_askRules : mj_pd cX4_askRules pX4_askRules := mj_pdB (by decide +kernel)
theorem fX4_askRules : mj_mf mX4_askRules := ⟨mj_t3 219 (by decide +kernel) rfl, mj_t1 8 (by decide +kernel) rfl, by decide, by decide, by decide⟩
theorem iX4_askRules : Cond.instanceMethod yX4_askRules ∈ mj_GW := mj_t3 218 (by decide +kernel) rfl
theorem vX4_askRules : Cond.selects (mj_own.getD 4 "") yX4_askRules yX4_askRules ∈ mj_GW := mj_p2 5 (by decide +kernel) rfl
def mX4_drawGusts : mj_m := (4, false, cX4_drawGusts, 5, none, yX4_drawGusts)
def pX4_drawGusts : List (Nat × Instr × Nat) := [(0, .iconst 0, 1), (1, .istore 4, 2), (3, .iload 4, 2), (5, .aload_n 1, 1), (6, .getfield 61, 3), (9, .if_icmp .ge 45, 3), (12, .aload_n 2, 1), (13, .bipush 100, 2), (15, .invokevirtual 98, 3), (18, .iload_n 3, 1), (19, .if_icmp .lt 6, 3), (22, .goto 26, 3), (25, .aload_n 2, 1), (26, .iconst 2, 1), (27, .invokevirtual 98, 3), (30, .ifCond .ne 12, 3), (33, .aload_n 1, 1), (34, .iload 4, 2), (36, .invokevirtual 95, 3), (39, .goto 9, 3), (42, .aload_n 1, 1), (43, .iload 4, 2), (45, .invokevirtual 57, 3), (48, .iinc 4 1, 3), (51, .goto (-48), 3), (54, .return_, 1)]
set_option maxRecDepth 100000 in
theorem dX4_drawGusts : mj_pd cX4_drawGusts pX4_drawGusts := mj_pdB (by decide +kernel)
theorem fX4_drawGusts : mj_mf mX4_drawGusts := ⟨mj_t4 57 (by decide +kernel) rfl, mj_t1 8 (by decide +kernel) rfl, by decide, by decide, by decide⟩
theorem iX4_drawGusts : Cond.instanceMethod yX4_drawGusts ∈ mj_GW := mj_t4 56 (by decide +kernel) rfl
theorem vX4_drawGusts : Cond.selects (mj_own.getD 4 "") yX4_drawGusts yX4_drawGusts ∈ mj_GW := mj_p2 8 (by decide +kernel) rfl
def mX4_moveAll : mj_m := (4, false, cX4_moveAll, 4, none, yX4_moveAll)
def pX4_moveAll : List (Nat × Instr × Nat) := [(0, .iconst 0, 1), (1, .istore_n 3, 1), (2, .iload_n 3, 1), (3, .aload_n 2, 1), (4, .getfield 61, 3), (7, .if_icmp .ge 20, 3), (10, .aload_n 0, 1), (11, .aload_n 2, 1), (12, .aload_n 0, 1), (13, .getfield 20, 3), (16, .iload_n 3, 1), (17, .iaload, 1), (18, .invokevirtual 103, 3), (21, .iinc 3 1, 3), (24, .goto (-22), 3), (27, .aload_n 2, 1), (28, .dup, 1), (29, .getfield 107, 3), (32, .iconst 1, 1), (33, .iadd, 1), (34, .putfield 107, 3), (37, .aload_n 1, 1), (38, .getfield 110, 3), (41, .iconst 3, 1), (42, .iaload, 1), (43, .aload_n 2, 1), (44, .getfield 107, 3), (47, .invokestatic 113, 3), (50, .ifCond .eq 29, 3), (53, .iconst 0, 1), (54, .istore_n 3, 1), (55, .iload_n 3, 1), (56, .aload_n 2, 1), (57, .getfield 61, 3), (60, .if_icmp .ge 19, 3), (63, .aload_n 2, 1), (64, .getfield 69, 3), (67, .iload_n 3, 1), (68, .dup2, 1), (69, .iaload, 1), (70, .iconst 1, 1), (71, .isub, 1), (72, .iastore, 1), (73, .iinc 3 1, 3), (76, .goto (-21), 3), (79, .aload_n 1, 1), (80, .getfield 110, 3), (83, .iconst 4, 1), (84, .iaload, 1), (85, .aload_n 2, 1), (86, .getfield 107, 3), (89, .invokestatic 113, 3), (92, .ifCond .eq 8, 3), (95, .aload_n 1, 1), (96, .aload_n 2, 1), (97, .invokestatic 117, 3), (100, .aload_n 1, 1), (101, .aload_n 2, 1), (102, .invokevirtual 43, 3), (105, .bipush 9, 2), (107, .if_icmp .gt 7, 3), (110, .aload_n 2, 1), (111, .invokestatic 120, 3), (114, .return_, 1)]
set_option maxRecDepth 100000 in
theorem dX4_moveAll : mj_pd cX4_moveAll pX4_moveAll := mj_pdB (by decide +kernel)
theorem fX4_moveAll : mj_mf mX4_moveAll := ⟨mj_t4 27 (by decide +kernel) rfl, mj_t1 8 (by decide +kernel) rfl, by decide, by decide, by decide⟩
theorem iX4_moveAll : Cond.instanceMethod yX4_moveAll ∈ mj_GW := mj_t4 26 (by decide +kernel) rfl
theorem vX4_moveAll : Cond.selects (mj_own.getD 4 "") yX4_moveAll yX4_moveAll ∈ mj_GW := mj_p2 6 (by decide +kernel) rfl
def mX4_comesNow : mj_m := (4, false, cX4_comesNow, 2, some .boolean, yX4_comesNow)
def pX4_comesNow : List (Nat × Instr × Nat) := [(0, .iload_n 0, 1), (1, .ifCond .le 13, 3), (4, .iload_n 1, 1), (5, .iload_n 0, 1), (6, .irem, 1), (7, .ifCond .ne 7, 3), (10, .iconst 1, 1), (11, .goto 4, 3), (14, .iconst 0, 1), (15, .ireturn, 1)]
set_option maxRecDepth 100000 in
theorem dX4_comesNow : mj_pd cX4_comesNow pX4_comesNow := mj_pdB (by decide +kernel)
theorem fX4_comesNow : mj_mf mX4_comesNow := ⟨mj_t4 35 (by decide +kernel) rfl, mj_t1 8 (by decide +kernel) rfl, by decide, by decide, by decide⟩
theorem sX4_comesNow : Cond.static yX4_comesNow ∈ mj_GW := mj_t4 34 (by decide +kernel) rfl
def mX4_sail : mj_m := (4, false, cX4_sail, 5, none, yX4_sail)
def pX4_sail : List (Nat × Instr × Nat) := [(0, .aload_n 1, 1), (1, .getfield 52, 3), (4, .iload_n 2, 1), (5, .iaload, 1), (6, .aload_n 0, 1), (7, .getfield 17, 3), (10, .iload_n 2, 1), (11, .iaload, 1), (12, .isub, 1), (13, .istore_n 3, 1), (14, .iconst 0, 1), (15, .istore 4, 2), (17, .iload 4, 2), (19, .iload_n 3, 1), (20, .if_icmp .ge 48, 3), (23, .aload_n 1, 1), (24, .aload_n 1, 1), (25, .getfield 82, 3), (28, .iload_n 2, 1), (29, .iaload, 1), (30, .aload_n 1, 1), (31, .getfield 69, 3), (34, .iload_n 2, 1), (35, .iaload, 1), (36, .iconst 1, 1), (37, .isub, 1), (38, .invokevirtual 123, 3), (41, .ifCond .eq 11, 3), (44, .aload_n 1, 1), (45, .getfield 52, 3), (48, .iload_n 2, 1), (49, .iconst 0, 1), (50, .iastore, 1), (51, .return_, 1), (52, .aload_n 1, 1), (53, .getfield 69, 3), (56, .iload_n 2, 1), (57, .dup2, 1), (58, .iaload, 1), (59, .iconst 1, 1), (60, .isub, 1), (61, .iastore, 1), (62, .iinc 4 1, 3), (65, .goto (-48), 3), (68, .return_, 1)]
set_option maxRecDepth 100000 in
theorem dX4_sail : mj_pd cX4_sail pX4_sail := mj_pdB (by decide +kernel)
theorem fX4_sail : mj_mf mX4_sail := ⟨mj_t4 31 (by decide +kernel) rfl, mj_t1 8 (by decide +kernel) rfl, by decide, by decide, by decide⟩
theorem iX4_sail : Cond.instanceMethod yX4_sail ∈ mj_GW := mj_t4 30 (by decide +kernel) rfl
theorem vX4_sail : Cond.selects (mj_own.getD 4 "") yX4_sail yX4_sail ∈ mj_GW := mj_p2 7 (by decide +kernel) rfl
def mX4_driftAll : mj_m := (4, false, cX4_driftAll, 4, none, yX4_driftAll)
def pX4_driftAll : List (Nat × Instr × Nat) := [(0, .aload_n 0, 1), (1, .getfield 110, 3), (4, .iconst 0, 1), (5, .iaload, 1), (6, .iconst 2, 1), (7, .isub, 1), (8, .istore_n 2, 1), (9, .iload_n 2, 1), (10, .ifCond .lt 60, 3), (13, .iconst 0, 1), (14, .istore_n 3, 1), (15, .iload_n 3, 1), (16, .aload_n 1, 1), (17, .getfield 61, 3), (20, .if_icmp .ge 44, 3), (23, .aload_n 1, 1), (24, .getfield 82, 3), (27, .iload_n 3, 1), (28, .iaload, 1), (29, .iload_n 2, 1), (30, .if_icmp .ne 28, 3), (33, .aload_n 1, 1), (34, .iload_n 2, 1), (35, .iconst 1, 1), (36, .iadd, 1), (37, .aload_n 1, 1), (38, .getfield 69, 3), (41, .iload_n 3, 1), (42, .iaload, 1), (43, .invokevirtual 123, 3), (46, .ifCond .ne 12, 3), (49, .aload_n 1, 1), (50, .getfield 82, 3), (53, .iload_n 3, 1), (54, .iload_n 2, 1), (55, .iconst 1, 1), (56, .iadd, 1), (57, .iastore, 1), (58, .iinc 3 1, 3), (61, .goto (-46), 3), (64, .iinc 2 (-1), 3), (67, .goto (-58), 3), (70, .return_, 1)]
set_option maxRecDepth 100000 in
theorem dX4_driftAll : mj_pd cX4_driftAll pX4_driftAll := mj_pdB (by decide +kernel)
theorem fX4_driftAll : mj_mf mX4_driftAll := ⟨mj_t4 38 (by decide +kernel) rfl, mj_t1 8 (by decide +kernel) rfl, by decide, by decide, by decide⟩
theorem sX4_driftAll : Cond.static yX4_driftAll ∈ mj_GW := mj_t4 37 (by decide +kernel) rfl
def mX4_noteEarly : mj_m := (4, false, cX4_noteEarly, 2, none, yX4_noteEarly)
def pX4_noteEarly : List (Nat × Instr × Nat) := [(0, .iconst 0, 1), (1, .istore_n 1, 1), (2, .iload_n 1, 1), (3, .aload_n 0, 1), (4, .getfield 61, 3), (7, .if_icmp .ge 25, 3), (10, .aload_n 0, 1), (11, .getfield 69, 3), (14, .iload_n 1, 1), (15, .iaload, 1), (16, .ifCond .ge 10, 3), (19, .aload_n 0, 1), (20, .getfield 126, 3), (23, .iload_n 1, 1), (24, .iconst 1, 1), (25, .iastore, 1), (26, .iinc 1 1, 3), (29, .goto (-27), 3), (32, .return_, 1)]
set_option maxRecDepth 100000 in
theorem dX4_noteEarly : mj_pd cX4_noteEarly pX4_noteEarly := mj_pdB (by decide +kernel)
theorem fX4_noteEarly : mj_mf mX4_noteEarly := ⟨mj_t4 41 (by decide +kernel) rfl, mj_t1 8 (by decide +kernel) rfl, by decide, by decide, by decide⟩
theorem sX4_noteEarly : Cond.static yX4_noteEarly ∈ mj_GW := mj_t4 40 (by decide +kernel) rfl
def mX5_forget : mj_m := (5, false, cX5_forget, 2, none, yX5_forget)
def pX5_forget : List (Nat × Instr × Nat) := [(0, .aload_n 0, 1), (1, .iconst 0, 1), (2, .putfield 24, 3), (5, .aload_n 0, 1), (6, .iconst 0, 1), (7, .putfield 28, 3), (10, .iconst 0, 1), (11, .istore_n 1, 1), (12, .iload_n 1, 1), (13, .bipush 8, 2), (15, .if_icmp .ge 39, 3), (18, .aload_n 0, 1), (19, .getfield 9, 3), (22, .iload_n 1, 1), (23, .iconst 0, 1), (24, .iastore, 1), (25, .aload_n 0, 1), (26, .getfield 15, 3), (29, .iload_n 1, 1), (30, .bipush (-20), 2), (32, .iastore, 1), (33, .aload_n 0, 1), (34, .getfield 18, 3), (37, .iload_n 1, 1), (38, .bipush 20, 2), (40, .iastore, 1), (41, .aload_n 0, 1), (42, .getfield 21, 3), (45, .iload_n 1, 1), (46, .iconst 0, 1), (47, .iastore, 1), (48, .iinc 1 1, 3), (51, .goto (-39), 3), (54, .return_, 1)]
set_option maxRecDepth 100000 in
theorem dX5_forget : mj_pd cX5_forget pX5_forget := mj_pdB (by decide +kernel)
theorem fX5_forget : mj_mf mX5_forget := ⟨mj_t3 133 (by decide +kernel) rfl, mj_t1 12 (by decide +kernel) rfl, by decide, by decide, by decide⟩
theorem iX5_forget : Cond.instanceMethod yX5_forget ∈ mj_GW := mj_t3 131 (by decide +kernel) rfl
theorem vX5_forget : Cond.selects (mj_own.getD 5 "") yX5_forget yX5_forget ∈ mj_GW := mj_t3 132 (by decide +kernel) rfl
def mX5_canSee : mj_m := (5, false, cX5_canSee, 3, some .boolean, yX5_canSee)
def pX5_canSee : List (Nat × Instr × Nat) := [(0, .aload_n 0, 1), (1, .getfield 24, 3), (4, .bipush 12, 2), (6, .if_icmp .ge 24, 3), (9, .iload_n 1, 1), (10, .bipush (-20), 2), (12, .if_icmp .lt 18, 3), (15, .iload_n 2, 1), (16, .bipush 20, 2), (18, .if_icmp .gt 12, 3), (21, .iload_n 1, 1), (22, .iload_n 2, 1), (23, .if_icmp .gt 7, 3), (26, .iconst 1, 1), (27, .goto 4, 3), (30, .iconst 0, 1), (31, .ireturn, 1)]
set_option maxRecDepth 100000 in
theorem dX5_canSee : mj_pd cX5_canSee pX5_canSee := mj_pdB (by decide +kernel)
theorem fX5_canSee : mj_mf mX5_canSee := ⟨mj_t5 11 (by decide +kernel) rfl, mj_t1 12 (by decide +kernel) rfl, by decide, by decide, by decide⟩
theorem iX5_canSee : Cond.instanceMethod yX5_canSee ∈ mj_GW := mj_t5 9 (by decide +kernel) rfl
theorem vX5_canSee : Cond.selects (mj_own.getD 5 "") yX5_canSee yX5_canSee ∈ mj_GW := mj_t5 10 (by decide +kernel) rfl
def mX5_addPicture : mj_m := (5, false, cX5_addPicture, 4, some .int, yX5_addPicture)
def pX5_addPicture : List (Nat × Instr × Nat) := [(0, .aload_n 0, 1), (1, .getfield 9, 3), (4, .iload_n 1, 1), (5, .dup2, 1), (6, .iaload, 1), (7, .iconst 1, 1), (8, .iadd, 1), (9, .iastore, 1), (10, .aload_n 0, 1), (11, .getfield 15, 3), (14, .iload_n 1, 1), (15, .iload_n 2, 1), (16, .aload_n 0, 1), (17, .getfield 15, 3), (20, .iload_n 1, 1), (21, .iaload, 1), (22, .if_icmp .le 7, 3), (25, .iload_n 2, 1), (26, .goto 9, 3), (29, .aload_n 0, 1), (30, .getfield 15, 3), (33, .iload_n 1, 1), (34, .iaload, 1), (35, .iastore, 1), (36, .aload_n 0, 1), (37, .getfield 18, 3), (40, .iload_n 1, 1), (41, .iload_n 3, 1), (42, .aload_n 0, 1), (43, .getfield 18, 3), (46, .iload_n 1, 1), (47, .iaload, 1), (48, .if_icmp .ge 7, 3), (51, .iload_n 3, 1), (52, .goto 9, 3), (55, .aload_n 0, 1), (56, .getfield 18, 3), (59, .iload_n 1, 1), (60, .iaload, 1), (61, .iastore, 1), (62, .aload_n 0, 1), (63, .dup, 1), (64, .getfield 24, 3), (67, .iconst 1, 1), (68, .iadd, 1), (69, .putfield 24, 3), (72, .aload_n 0, 1), (73, .getfield 24, 3), (76, .ireturn, 1)]
set_option maxRecDepth 100000 in
theorem dX5_addPicture : mj_pd cX5_addPicture pX5_addPicture := mj_pdB (by decide +kernel)
theorem fX5_addPicture : mj_mf mX5_addPicture := ⟨mj_t5 15 (by decide +kernel) rfl, mj_t1 12 (by decide +kernel) rfl, by decide, by decide, by decide⟩
theorem iX5_addPicture : Cond.instanceMethod yX5_addPicture ∈ mj_GW := mj_t5 13 (by decide +kernel) rfl
theorem vX5_addPicture : Cond.selects (mj_own.getD 5 "") yX5_addPicture yX5_addPicture ∈ mj_GW := mj_t5 14 (by decide +kernel) rfl
def mX5_isSeen : mj_m := (5, false, cX5_isSeen, 4, some .boolean, yX5_isSeen)
def pX5_isSeen : List (Nat × Instr × Nat) := [(0, .aload_n 0, 1), (1, .getfield 15, 3), (4, .iload_n 1, 1), (5, .iaload, 1), (6, .aload_n 0, 1), (7, .getfield 18, 3), (10, .iload_n 1, 1), (11, .iaload, 1), (12, .if_icmp .gt 7, 3), (15, .iconst 1, 1), (16, .goto 4, 3), (19, .iconst 0, 1), (20, .istore_n 3, 1), (21, .iload_n 2, 1), (22, .lookupswitch 82 #[(0, 26), (1, 54)], 26), (48, .aload_n 0, 1), (49, .getfield 9, 3), (52, .iload_n 1, 1), (53, .iaload, 1), (54, .ifCond .le 20, 3), (57, .iload_n 3, 1), (58, .ifCond .eq 16, 3), (61, .aload_n 0, 1), (62, .getfield 15, 3), (65, .iload_n 1, 1), (66, .iaload, 1), (67, .ifCond .ge 7, 3), (70, .iconst 1, 1), (71, .goto 4, 3), (74, .iconst 0, 1), (75, .ireturn, 1), (76, .aload_n 0, 1), (77, .getfield 9, 3), (80, .iload_n 1, 1), (81, .iaload, 1), (82, .ifCond .le 20, 3), (85, .iload_n 3, 1), (86, .ifCond .eq 16, 3), (89, .aload_n 0, 1), (90, .getfield 18, 3), (93, .iload_n 1, 1), (94, .iaload, 1), (95, .ifCond .ge 7, 3), (98, .iconst 1, 1), (99, .goto 4, 3), (102, .iconst 0, 1), (103, .ireturn, 1), (104, .iload_n 3, 1), (105, .ifCond .ne 7, 3), (108, .iconst 1, 1), (109, .goto 4, 3), (112, .iconst 0, 1), (113, .ireturn, 1)]
set_option maxRecDepth 100000 in
theorem dX5_isSeen : mj_pd cX5_isSeen pX5_isSeen := mj_pdB (by decide +kernel)
theorem fX5_isSeen : mj_mf mX5_isSeen := ⟨mj_t5 23 (by decide +kernel) rfl, mj_t1 12 (by decide +kernel) rfl, by decide, by decide, by decide⟩
theorem iX5_isSeen : Cond.instanceMethod yX5_isSeen ∈ mj_GW := mj_t5 21 (by decide +kernel) rfl
theorem vX5_isSeen : Cond.selects (mj_own.getD 5 "") yX5_isSeen yX5_isSeen ∈ mj_GW := mj_t5 22 (by decide +kernel) rfl
def mX5_addRace : mj_m := (5, false, cX5_addRace, 4, some .int, yX5_addRace)
def pX5_addRace : List (Nat × Instr × Nat) := [(0, .iconst 0, 1), (1, .istore_n 3, 1), (2, .iload_n 3, 1), (3, .aload_n 2, 1), (4, .getfield 31, 3), (7, .if_icmp .ge 24, 3), (10, .aload_n 0, 1), (11, .getfield 21, 3), (14, .iload_n 3, 1), (15, .dup2, 1), (16, .iaload, 1), (17, .aload_n 1, 1), (18, .aload_n 2, 1), (19, .iload_n 3, 1), (20, .invokevirtual 36, 3), (23, .iadd, 1), (24, .iastore, 1), (25, .iinc 3 1, 3), (28, .goto (-26), 3), (31, .aload_n 0, 1), (32, .dup, 1), (33, .getfield 28, 3), (36, .iconst 1, 1), (37, .iadd, 1), (38, .putfield 28, 3), (41, .aload_n 0, 1), (42, .getfield 28, 3), (45, .ireturn, 1)]
set_option maxRecDepth 100000 in
theorem dX5_addRace : mj_pd cX5_addRace pX5_addRace := mj_pdB (by decide +kernel)
theorem fX5_addRace : mj_mf mX5_addRace := ⟨mj_t5 31 (by decide +kernel) rfl, mj_t1 12 (by decide +kernel) rfl, by decide, by decide, by decide⟩
theorem iX5_addRace : Cond.instanceMethod yX5_addRace ∈ mj_GW := mj_t5 29 (by decide +kernel) rfl
theorem vX5_addRace : Cond.selects (mj_own.getD 5 "") yX5_addRace yX5_addRace ∈ mj_GW := mj_t5 30 (by decide +kernel) rfl
def mX6_has : mj_m := (6, false, cX6_has, 2, some .boolean, yX6_has)
def pX6_has : List (Nat × Instr × Nat) := [(0, .iload_n 1, 1), (1, .ifCond .lt 15, 3), (4, .iload_n 1, 1), (5, .aload_n 0, 1), (6, .getfield 25, 3), (9, .if_icmp .ge 7, 3), (12, .iconst 1, 1), (13, .goto 4, 3), (16, .iconst 0, 1), (17, .ireturn, 1)]
set_option maxRecDepth 100000 in
theorem dX6_has : mj_pd cX6_has pX6_has := mj_pdB (by decide +kernel)
theorem fX6_has : mj_mf mX6_has := ⟨mj_t3 223 (by decide +kernel) rfl, mj_t1 3 (by decide +kernel) rfl, by decide, by decide, by decide⟩
theorem iX6_has : Cond.instanceMethod yX6_has ∈ mj_GW := mj_t3 221 (by decide +kernel) rfl
theorem vX6_has : Cond.selects (mj_own.getD 6 "") yX6_has yX6_has ∈ mj_GW := mj_t3 222 (by decide +kernel) rfl
def mX6_add : mj_m := (6, false, cX6_add, 3, some .int, yX6_add)
def pX6_add : List (Nat × Instr × Nat) := [(0, .aload_n 0, 1), (1, .getfield 25, 3), (4, .iconst 4, 1), (5, .if_icmp .ge 16, 3), (8, .iload_n 2, 1), (9, .sipush 240, 3), (12, .if_icmp .gt 9, 3), (15, .iload_n 2, 1), (16, .aload_n 1, 1), (17, .arraylength, 1), (18, .if_icmp .le 5, 3), (21, .iconst (-1), 1), (22, .ireturn, 1), (23, .aload_n 1, 1), (24, .iconst 0, 1), (25, .aload_n 0, 1), (26, .getfield 15, 3), (29, .aload_n 0, 1), (30, .getfield 25, 3), (33, .aaload, 1), (34, .iconst 0, 1), (35, .iload_n 2, 1), (36, .invokestatic 29, 3), (39, .aload_n 0, 1), (40, .getfield 18, 3), (43, .aload_n 0, 1), (44, .getfield 25, 3), (47, .iload_n 2, 1), (48, .iastore, 1), (49, .aload_n 0, 1), (50, .dup, 1), (51, .getfield 25, 3), (54, .iconst 1, 1), (55, .iadd, 1), (56, .putfield 25, 3), (59, .aload_n 0, 1), (60, .getfield 25, 3), (63, .iconst 1, 1), (64, .isub, 1), (65, .ireturn, 1)]
set_option maxRecDepth 100000 in
theorem dX6_add : mj_pd cX6_add pX6_add := mj_pdB (by decide +kernel)
theorem fX6_add : mj_mf mX6_add := ⟨mj_t3 141 (by decide +kernel) rfl, mj_t1 3 (by decide +kernel) rfl, by decide, by decide, by decide⟩
theorem iX6_add : Cond.instanceMethod yX6_add ∈ mj_GW := mj_t3 139 (by decide +kernel) rfl
theorem vX6_add : Cond.selects (mj_own.getD 6 "") yX6_add yX6_add ∈ mj_GW := mj_t3 140 (by decide +kernel) rfl
def mX6_worthOf : mj_m := (6, false, cX6_worthOf, 8, some .int, yX6_worthOf)
def pX6_worthOf : List (Nat × Instr × Nat) := [(0, .aload_n 0, 1), (1, .iload_n 1, 1), (2, .invokevirtual 35, 3), (5, .ifCond .ne 5, 3), (8, .iconst 0, 1), (9, .ireturn, 1), (10, .aload_n 0, 1), (11, .getfield 15, 3), (14, .iload_n 1, 1), (15, .aaload, 1), (16, .astore_n 3, 1), (17, .aload_n 0, 1), (18, .getfield 18, 3), (21, .iload_n 1, 1), (22, .iaload, 1), (23, .istore 4, 2), (25, .iconst 0, 1), (26, .istore 5, 2), (28, .iconst 0, 1), (29, .istore 6, 2), (31, .iload 6, 2), (33, .iload 4, 2), (35, .if_icmp .ge 222, 3), (38, .aload_n 3, 1), (39, .iload 6, 2), (41, .iaload, 1), (42, .istore 7, 2), (44, .iload 7, 2), (46, .sipush 20000, 3), (49, .if_icmp .ge 48, 3), (52, .iload 5, 2), (54, .bipush 64, 2), (56, .if_icmp .lt 5, 3), (59, .iconst 0, 1), (60, .ireturn, 1), (61, .aload_n 0, 1), (62, .getfield 22, 3), (65, .iload 5, 2), (67, .iload 7, 2), (69, .sipush 10000, 3), (72, .if_icmp .ge 8, 3), (75, .iload 7, 2), (77, .goto 13, 3), (80, .aload_n 2, 1), (81, .iload 7, 2), (83, .sipush 10000, 3), (86, .isub, 1), (87, .invokestatic 39, 3), (90, .iastore, 1), (91, .iinc 5 1, 3), (94, .goto 157, 3), (97, .iload 5, 2), (99, .iconst 1, 1), (100, .if_icmp .lt 11, 3), (103, .iload 7, 2), (105, .sipush 20010, 3), (108, .if_icmp .ne 23, 3), (111, .iload 5, 2), (113, .iconst 1, 1), (114, .if_icmp .ge 7, 3), (117, .iconst 0, 1), (118, .goto 12, 3), (121, .aload_n 0, 1), (122, .getfield 22, 3), (125, .iload 5, 2), (127, .iconst 1, 1), (128, .isub, 1), (129, .iaload, 1), (130, .ireturn, 1), (131, .iload 7, 2), (133, .sipush 20009, 3), (136, .if_icmp .ne 26, 3), (139, .aload_n 0, 1), (140, .getfield 22, 3), (143, .iload 5, 2), (145, .iconst 1, 1), (146, .isub, 1), (147, .iconst 1, 1), (148, .aload_n 0, 1), (149, .getfield 22, 3), (152, .iload 5, 2), (154, .iconst 1, 1), (155, .isub, 1), (156, .iaload, 1), (157, .isub, 1), (158, .iastore, 1), (159, .goto 92, 3), (162, .iload 7, 2), (164, .sipush 30000, 3), (167, .if_icmp .lt 40, 3), (170, .iinc 5 (-1), 3), (173, .aload_n 0, 1), (174, .getfield 22, 3), (177, .iload 5, 2), (179, .iaload, 1), (180, .ifCond .ne 71, 3), (183, .iload 7, 2), (185, .sipush 30000, 3), (188, .isub, 1), (189, .iload 6, 2), (191, .if_icmp .le 60, 3), (194, .iload 7, 2), (196, .sipush 30000, 3), (199, .isub, 1), (200, .iconst 1, 1), (201, .isub, 1), (202, .istore 6, 2), (204, .goto 47, 3), (207, .iload 5, 2), (209, .iconst 2, 1), (210, .if_icmp .ge 5, 3), (213, .iconst 0, 1), (214, .ireturn, 1), (215, .iinc 5 (-1), 3), (218, .aload_n 0, 1), (219, .getfield 22, 3), (222, .iload 5, 2), (224, .iconst 1, 1), (225, .isub, 1), (226, .iload 7, 2), (228, .aload_n 0, 1), (229, .getfield 22, 3), (232, .iload 5, 2), (234, .iconst 1, 1), (235, .isub, 1), (236, .iaload, 1), (237, .aload_n 0, 1), (238, .getfield 22, 3), (241, .iload 5, 2), (243, .iaload, 1), (244, .invokestatic 43, 3), (247, .invokestatic 47, 3), (250, .iastore, 1), (251, .iinc 6 1, 3), (254, .goto (-223), 3), (257, .iconst 0, 1), (258, .ireturn, 1)]
set_option maxRecDepth 100000 in
theorem dX6_worthOf : mj_pd cX6_worthOf pX6_worthOf := mj_pdB (by decide +kernel)
theorem fX6_worthOf : mj_mf mX6_worthOf := ⟨mj_t4 1 (by decide +kernel) rfl, mj_t1 3 (by decide +kernel) rfl, by decide, by decide, by decide⟩
theorem iX6_worthOf : Cond.instanceMethod yX6_worthOf ∈ mj_GW := mj_t3 239 (by decide +kernel) rfl
theorem vX6_worthOf : Cond.selects (mj_own.getD 6 "") yX6_worthOf yX6_worthOf ∈ mj_GW := mj_t4 0 (by decide +kernel) rfl
def mX6_letterAt : mj_m := (6, false, cX6_letterAt, 2, some .int, yX6_letterAt)
def pX6_letterAt : List (Nat × Instr × Nat) := [(0, .iload_n 1, 1), (1, .ifCond .lt 15, 3), (4, .iload_n 1, 1), (5, .aload_n 0, 1), (6, .arraylength, 1), (7, .if_icmp .ge 9, 3), (10, .aload_n 0, 1), (11, .iload_n 1, 1), (12, .iaload, 1), (13, .goto 4, 3), (16, .iconst 0, 1), (17, .ireturn, 1)]
set_option maxRecDepth 100000 in
theorem dX6_letterAt : mj_pd cX6_letterAt pX6_letterAt := mj_pdB (by decide +kernel)
theorem fX6_letterAt : mj_mf mX6_letterAt := ⟨mj_t4 5 (by decide +kernel) rfl, mj_t1 3 (by decide +kernel) rfl, by decide, by decide, by decide⟩
theorem sX6_letterAt : Cond.static yX6_letterAt ∈ mj_GW := mj_t4 4 (by decide +kernel) rfl
def mX6_join : mj_m := (6, false, cX6_join, 3, some .long, yX6_join)
def pX6_join : List (Nat × Instr × Nat) := [(0, .iload_n 0, 1), (1, .tableswitch 116 20000 20007 #[47, 53, 59, 65, 78, 89, 100, 111], 47), (48, .iload_n 1, 1), (49, .i2l, 1), (50, .iload_n 2, 1), (51, .i2l, 1), (52, .ladd, 1), (53, .lreturn, 1), (54, .iload_n 1, 1), (55, .i2l, 1), (56, .iload_n 2, 1), (57, .i2l, 1), (58, .lsub, 1), (59, .lreturn, 1), (60, .iload_n 1, 1), (61, .i2l, 1), (62, .iload_n 2, 1), (63, .i2l, 1), (64, .lmul, 1), (65, .lreturn, 1), (66, .iload_n 2, 1), (67, .ifCond .ne 7, 3), (70, .lconst 0, 1), (71, .goto 7, 3), (74, .iload_n 1, 1), (75, .iload_n 2, 1), (76, .idiv, 1), (77, .i2l, 1), (78, .lreturn, 1), (79, .iload_n 1, 1), (80, .iload_n 2, 1), (81, .if_icmp .ne 7, 3), (84, .lconst 1, 1), (85, .goto 4, 3), (88, .lconst 0, 1), (89, .lreturn, 1), (90, .iload_n 1, 1), (91, .iload_n 2, 1), (92, .if_icmp .ge 7, 3), (95, .lconst 1, 1), (96, .goto 4, 3), (99, .lconst 0, 1), (100, .lreturn, 1), (101, .iload_n 1, 1), (102, .iload_n 2, 1), (103, .if_icmp .le 7, 3), (106, .lconst 1, 1), (107, .goto 4, 3), (110, .lconst 0, 1), (111, .lreturn, 1), (112, .iload_n 1, 1), (113, .iload_n 2, 1), (114, .iand, 1), (115, .i2l, 1), (116, .lreturn, 1), (117, .iload_n 1, 1), (118, .iload_n 2, 1), (119, .ior, 1), (120, .i2l, 1), (121, .lreturn, 1)]
set_option maxRecDepth 100000 in
theorem dX6_join : mj_pd cX6_join pX6_join := mj_pdB (by decide +kernel)
theorem fX6_join : mj_mf mX6_join := ⟨mj_t4 8 (by decide +kernel) rfl, mj_t1 3 (by decide +kernel) rfl, by decide, by decide, by decide⟩
theorem sX6_join : Cond.static yX6_join ∈ mj_GW := mj_t4 7 (by decide +kernel) rfl
def mX6_bounded : mj_m := (6, false, cX6_bounded, 2, some .int, yX6_bounded)
def pX6_bounded : List (Nat × Instr × Nat) := [(0, .lload_n 0, 1), (1, .ldc2_w 51, 3), (4, .lcmp, 1), (5, .ifCond .le 6, 3), (8, .ldc 53, 2), (10, .ireturn, 1), (11, .lload_n 0, 1), (12, .ldc2_w 54, 3), (15, .lcmp, 1), (16, .ifCond .ge 8, 3), (19, .ldc 56, 2), (21, .goto 5, 3), (24, .lload_n 0, 1), (25, .l2i, 1), (26, .ireturn, 1)]
set_option maxRecDepth 100000 in
theorem dX6_bounded : mj_pd cX6_bounded pX6_bounded := mj_pdB (by decide +kernel)
theorem fX6_bounded : mj_mf mX6_bounded := ⟨mj_t4 11 (by decide +kernel) rfl, mj_t1 3 (by decide +kernel) rfl, by decide, by decide, by decide⟩
theorem sX6_bounded : Cond.static yX6_bounded ∈ mj_GW := mj_t4 10 (by decide +kernel) rfl
def mX7_findFault : mj_m := (7, false, cX7_findFault, 2, some .int, yX7_findFault)
def pX7_findFault : List (Nat × Instr × Nat) := [(0, .aload_n 0, 1), (1, .getfield 17, 3), (4, .invokevirtual 21, 3), (7, .aload_n 0, 1), (8, .iconst 0, 1), (9, .putfield 26, 3), (12, .iconst 0, 1), (13, .istore_n 1, 1), (14, .iload_n 1, 1), (15, .sipush 240, 3), (18, .if_icmp .ge 39, 3), (21, .aload_n 0, 1), (22, .invokevirtual 30, 3), (25, .ifCond .ne 11, 3), (28, .aload_n 0, 1), (29, .getfield 17, 3), (32, .getfield 34, 3), (35, .ireturn, 1), (36, .aload_n 0, 1), (37, .getfield 17, 3), (40, .bipush 59, 2), (42, .invokevirtual 37, 3), (45, .ifCond .ne 6, 3), (48, .goto 9, 3), (51, .iinc 1 1, 3), (54, .goto (-40), 3), (57, .aload_n 0, 1), (58, .getfield 17, 3), (61, .invokevirtual 41, 3), (64, .iconst (-1), 1), (65, .if_icmp .ne 7, 3), (68, .iconst (-1), 1), (69, .goto 10, 3), (72, .aload_n 0, 1), (73, .getfield 17, 3), (76, .getfield 34, 3), (79, .ireturn, 1)]
set_option maxRecDepth 100000 in
theorem dX7_findFault : mj_pd cX7_findFault pX7_findFault := mj_pdB (by decide +kernel)
theorem fX7_findFault : mj_mf mX7_findFault := ⟨mj_t3 62 (by decide +kernel) rfl, mj_t1 7 (by decide +kernel) rfl, by decide, by decide, by decide⟩
theorem iX7_findFault : Cond.instanceMethod yX7_findFault ∈ mj_GW := mj_t3 60 (by decide +kernel) rfl
theorem vX7_findFault : Cond.selects (mj_own.getD 7 "") yX7_findFault yX7_findFault ∈ mj_GW := mj_t3 61 (by decide +kernel) rfl
def mX7_readClause : mj_m := (7, false, cX7_readClause, 2, some .boolean, yX7_readClause)
def pX7_readClause : List (Nat × Instr × Nat) := [(0, .aload_n 0, 1), (1, .getfield 17, 3), (4, .bipush 121, 2), (6, .invokevirtual 37, 3), (9, .ifCond .eq 15, 3), (12, .aload_n 0, 1), (13, .getfield 17, 3), (16, .bipush 58, 2), (18, .invokevirtual 37, 3), (21, .ifCond .ne 5, 3), (24, .iconst 0, 1), (25, .ireturn, 1), (26, .aload_n 0, 1), (27, .getfield 17, 3), (30, .invokevirtual 41, 3), (33, .istore_n 1, 1), (34, .iload_n 1, 1), (35, .bipush 33, 2), (37, .if_icmp .eq 9, 3), (40, .iload_n 1, 1), (41, .bipush 40, 2), (43, .if_icmp .ne 25, 3), (46, .aload_n 0, 1), (47, .iconst 0, 1), (48, .iconst 0, 1), (49, .invokevirtual 45, 3), (52, .ifCond .eq 14, 3), (55, .aload_n 0, 1), (56, .invokevirtual 49, 3), (59, .ifCond .eq 7, 3), (62, .iconst 1, 1), (63, .goto 4, 3), (66, .iconst 0, 1), (67, .ireturn, 1), (68, .aload_n 0, 1), (69, .iconst 0, 1), (70, .invokevirtual 52, 3), (73, .ifCond .ne 5, 3), (76, .iconst 0, 1), (77, .ireturn, 1), (78, .aload_n 0, 1), (79, .getfield 17, 3), (82, .invokevirtual 41, 3), (85, .invokestatic 55, 3), (88, .iconst (-1), 1), (89, .if_icmp .eq 25, 3), (92, .aload_n 0, 1), (93, .iconst 0, 1), (94, .iconst 1, 1), (95, .invokevirtual 45, 3), (98, .ifCond .eq 14, 3), (101, .aload_n 0, 1), (102, .invokevirtual 49, 3), (105, .ifCond .eq 7, 3), (108, .iconst 1, 1), (109, .goto 4, 3), (112, .iconst 0, 1), (113, .ireturn, 1), (114, .aload_n 0, 1), (115, .sipush 20010, 3), (118, .invokevirtual 59, 3), (121, .iconst 1, 1), (122, .ireturn, 1)]
set_option maxRecDepth 100000 in
theorem dX7_readClause : mj_pd cX7_readClause pX7_readClause := mj_pdB (by decide +kernel)
theorem fX7_readClause : mj_mf mX7_readClause := ⟨mj_t3 67 (by decide +kernel) rfl, mj_t1 7 (by decide +kernel) rfl, by decide, by decide, by decide⟩
theorem iX7_readClause : Cond.instanceMethod yX7_readClause ∈ mj_GW := mj_t3 66 (by decide +kernel) rfl
theorem vX7_readClause : Cond.selects (mj_own.getD 7 "") yX7_readClause yX7_readClause ∈ mj_GW := mj_p1 5 (by decide +kernel) rfl
def mX7_readAnswer : mj_m := (7, false, cX7_readAnswer, 2, some .boolean, yX7_readAnswer)
def pX7_readAnswer : List (Nat × Instr × Nat) := [(0, .aload_n 0, 1), (1, .getfield 17, 3), (4, .bipush 63, 2), (6, .invokevirtual 37, 3), (9, .ifCond .ne 5, 3), (12, .iconst 0, 1), (13, .ireturn, 1), (14, .aload_n 0, 1), (15, .getfield 26, 3), (18, .istore_n 1, 1), (19, .aload_n 0, 1), (20, .sipush 30000, 3), (23, .invokevirtual 59, 3), (26, .aload_n 0, 1), (27, .iconst 0, 1), (28, .invokevirtual 52, 3), (31, .ifCond .ne 5, 3), (34, .iconst 0, 1), (35, .ireturn, 1), (36, .aload_n 0, 1), (37, .sipush 20010, 3), (40, .invokevirtual 59, 3), (43, .iload_n 1, 1), (44, .aload_n 0, 1), (45, .getfield 11, 3), (48, .arraylength, 1), (49, .if_icmp .ge 17, 3), (52, .aload_n 0, 1), (53, .getfield 11, 3), (56, .iload_n 1, 1), (57, .sipush 30000, 3), (60, .aload_n 0, 1), (61, .getfield 26, 3), (64, .iadd, 1), (65, .iastore, 1), (66, .iconst 1, 1), (67, .ireturn, 1)]
set_option maxRecDepth 100000 in
theorem dX7_readAnswer : mj_pd cX7_readAnswer pX7_readAnswer := mj_pdB (by decide +kernel)
theorem fX7_readAnswer : mj_mf mX7_readAnswer := ⟨mj_t3 107 (by decide +kernel) rfl, mj_t1 7 (by decide +kernel) rfl, by decide, by decide, by decide⟩
theorem iX7_readAnswer : Cond.instanceMethod yX7_readAnswer ∈ mj_GW := mj_t3 106 (by decide +kernel) rfl
theorem vX7_readAnswer : Cond.selects (mj_own.getD 7 "") yX7_readAnswer yX7_readAnswer ∈ mj_GW := mj_p1 13 (by decide +kernel) rfl
def mX7_readCondition : mj_m := (7, false, cX7_readCondition, 4, some .boolean, yX7_readCondition)
def pX7_readCondition : List (Nat × Instr × Nat) := [(0, .aload_n 0, 1), (1, .iload_n 1, 1), (2, .iload_n 2, 1), (3, .invokevirtual 63, 3), (6, .ifCond .ne 5, 3), (9, .iconst 0, 1), (10, .ireturn, 1), (11, .iconst 0, 1), (12, .istore_n 3, 1), (13, .iload_n 3, 1), (14, .sipush 240, 3), (17, .if_icmp .ge 39, 3), (20, .aload_n 0, 1), (21, .getfield 17, 3), (24, .bipush 124, 2), (26, .invokevirtual 37, 3), (29, .ifCond .eq 27, 3), (32, .aload_n 0, 1), (33, .iload_n 1, 1), (34, .iconst 0, 1), (35, .invokevirtual 63, 3), (38, .ifCond .ne 5, 3), (41, .iconst 0, 1), (42, .ireturn, 1), (43, .aload_n 0, 1), (44, .sipush 20008, 3), (47, .invokevirtual 59, 3), (50, .iinc 3 1, 3), (53, .goto (-40), 3), (56, .iconst 1, 1), (57, .ireturn, 1)]
set_option maxRecDepth 100000 in
theorem dX7_readCondition : mj_pd cX7_readCondition pX7_readCondition := mj_pdB (by decide +kernel)
theorem fX7_readCondition : mj_mf mX7_readCondition := ⟨mj_t3 73 (by decide +kernel) rfl, mj_t1 7 (by decide +kernel) rfl, by decide, by decide, by decide⟩
theorem iX7_readCondition : Cond.instanceMethod yX7_readCondition ∈ mj_GW := mj_t3 72 (by decide +kernel) rfl
theorem vX7_readCondition : Cond.selects (mj_own.getD 7 "") yX7_readCondition yX7_readCondition ∈ mj_GW := mj_p1 6 (by decide +kernel) rfl
def mX7_readTruth : mj_m := (7, false, cX7_readTruth, 4, some .boolean, yX7_readTruth)
def pX7_readTruth : List (Nat × Instr × Nat) := [(0, .aload_n 0, 1), (1, .iload_n 1, 1), (2, .iload_n 2, 1), (3, .invokevirtual 66, 3), (6, .ifCond .ne 5, 3), (9, .iconst 0, 1), (10, .ireturn, 1), (11, .iconst 0, 1), (12, .istore_n 3, 1), (13, .iload_n 3, 1), (14, .sipush 240, 3), (17, .if_icmp .ge 39, 3), (20, .aload_n 0, 1), (21, .getfield 17, 3), (24, .bipush 38, 2), (26, .invokevirtual 37, 3), (29, .ifCond .eq 27, 3), (32, .aload_n 0, 1), (33, .iload_n 1, 1), (34, .iconst 0, 1), (35, .invokevirtual 66, 3), (38, .ifCond .ne 5, 3), (41, .iconst 0, 1), (42, .ireturn, 1), (43, .aload_n 0, 1), (44, .sipush 20007, 3), (47, .invokevirtual 59, 3), (50, .iinc 3 1, 3), (53, .goto (-40), 3), (56, .iconst 1, 1), (57, .ireturn, 1)]
set_option maxRecDepth 100000 in
theorem dX7_readTruth : mj_pd cX7_readTruth pX7_readTruth := mj_pdB (by decide +kernel)
theorem fX7_readTruth : mj_mf mX7_readTruth := ⟨mj_t3 77 (by decide +kernel) rfl, mj_t1 7 (by decide +kernel) rfl, by decide, by decide, by decide⟩
theorem iX7_readTruth : Cond.instanceMethod yX7_readTruth ∈ mj_GW := mj_t3 76 (by decide +kernel) rfl
theorem vX7_readTruth : Cond.selects (mj_own.getD 7 "") yX7_readTruth yX7_readTruth ∈ mj_GW := mj_p1 7 (by decide +kernel) rfl
def mX7_readUnit : mj_m := (7, false, cX7_readUnit, 5, some .boolean, yX7_readUnit)
def pX7_readUnit : List (Nat × Instr × Nat) := [(0, .aload_n 0, 1), (1, .getfield 17, 3), (4, .invokevirtual 41, 3), (7, .istore_n 3, 1), (8, .iload_n 2, 1), (9, .ifCond .ne 48, 3), (12, .iload_n 3, 1), (13, .bipush 33, 2), (15, .if_icmp .ne 42, 3), (18, .iload_n 1, 1), (19, .bipush 6, 2), (21, .if_icmp .ge 25, 3), (24, .aload_n 0, 1), (25, .getfield 17, 3), (28, .iload_n 3, 1), (29, .invokevirtual 37, 3), (32, .ifCond .eq 14, 3), (35, .aload_n 0, 1), (36, .iload_n 1, 1), (37, .iconst 1, 1), (38, .iadd, 1), (39, .iconst 0, 1), (40, .invokevirtual 66, 3), (43, .ifCond .ne 5, 3), (46, .iconst 0, 1), (47, .ireturn, 1), (48, .aload_n 0, 1), (49, .sipush 20009, 3), (52, .invokevirtual 59, 3), (55, .iconst 1, 1), (56, .ireturn, 1), (57, .iload_n 2, 1), (58, .ifCond .ne 55, 3), (61, .iload_n 3, 1), (62, .bipush 40, 2), (64, .if_icmp .ne 49, 3), (67, .iload_n 1, 1), (68, .bipush 6, 2), (70, .if_icmp .ge 41, 3), (73, .aload_n 0, 1), (74, .getfield 17, 3), (77, .iload_n 3, 1), (78, .invokevirtual 37, 3), (81, .ifCond .eq 30, 3), (84, .aload_n 0, 1), (85, .iload_n 1, 1), (86, .iconst 1, 1), (87, .iadd, 1), (88, .iconst 0, 1), (89, .invokevirtual 45, 3), (92, .ifCond .eq 19, 3), (95, .aload_n 0, 1), (96, .getfield 17, 3), (99, .bipush 41, 2), (101, .invokevirtual 37, 3), (104, .ifCond .eq 7, 3), (107, .iconst 1, 1), (108, .goto 4, 3), (111, .iconst 0, 1), (112, .ireturn, 1), (113, .iload_n 2, 1), (114, .ifCond .ne 13, 3), (117, .aload_n 0, 1), (118, .iload_n 1, 1), (119, .invokevirtual 52, 3), (122, .ifCond .ne 5, 3), (125, .iconst 0, 1), (126, .ireturn, 1), (127, .aload_n 0, 1), (128, .getfield 17, 3), (131, .invokevirtual 41, 3), (134, .invokestatic 55, 3), (137, .istore 4, 2), (139, .iload 4, 2), (141, .iconst (-1), 1), (142, .if_icmp .ne 5, 3), (145, .iconst 0, 1), (146, .ireturn, 1), (147, .aload_n 0, 1), (148, .getfield 17, 3), (151, .dup, 1), (152, .getfield 34, 3), (155, .iconst 1, 1), (156, .iadd, 1), (157, .putfield 34, 3), (160, .aload_n 0, 1), (161, .iload_n 1, 1), (162, .invokevirtual 52, 3), (165, .ifCond .ne 5, 3), (168, .iconst 0, 1), (169, .ireturn, 1), (170, .aload_n 0, 1), (171, .iload 4, 2), (173, .invokevirtual 59, 3), (176, .iconst 1, 1), (177, .ireturn, 1)]
set_option maxRecDepth 100000 in
theorem dX7_readUnit : mj_pd cX7_readUnit pX7_readUnit := mj_pdB (by decide +kernel)
theorem fX7_readUnit : mj_mf mX7_readUnit := ⟨mj_t3 81 (by decide +kernel) rfl, mj_t1 7 (by decide +kernel) rfl, by decide, by decide, by decide⟩
theorem iX7_readUnit : Cond.instanceMethod yX7_readUnit ∈ mj_GW := mj_t3 80 (by decide +kernel) rfl
theorem vX7_readUnit : Cond.selects (mj_own.getD 7 "") yX7_readUnit yX7_readUnit ∈ mj_GW := mj_p1 8 (by decide +kernel) rfl
def mX7_comparisonOf : mj_m := (7, false, cX7_comparisonOf, 1, some .int, yX7_comparisonOf)
def pX7_comparisonOf : List (Nat × Instr × Nat) := [(0, .iload_n 0, 1), (1, .tableswitch 39 60 62 #[31, 27, 35], 27), (28, .sipush 20004, 3), (31, .ireturn, 1), (32, .sipush 20005, 3), (35, .ireturn, 1), (36, .sipush 20006, 3), (39, .ireturn, 1), (40, .iconst (-1), 1), (41, .ireturn, 1)]
set_option maxRecDepth 100000 in
theorem dX7_comparisonOf : mj_pd cX7_comparisonOf pX7_comparisonOf := mj_pdB (by decide +kernel)
theorem fX7_comparisonOf : mj_mf mX7_comparisonOf := ⟨mj_t3 103 (by decide +kernel) rfl, mj_t1 7 (by decide +kernel) rfl, by decide, by decide, by decide⟩
theorem sX7_comparisonOf : Cond.static yX7_comparisonOf ∈ mj_GW := mj_t3 102 (by decide +kernel) rfl
def mX7_readSum : mj_m := (7, false, cX7_readSum, 4, some .boolean, yX7_readSum)
def pX7_readSum : List (Nat × Instr × Nat) := [(0, .aload_n 0, 1), (1, .iload_n 1, 1), (2, .invokevirtual 69, 3), (5, .ifCond .ne 5, 3), (8, .iconst 0, 1), (9, .ireturn, 1), (10, .iconst 0, 1), (11, .istore_n 2, 1), (12, .iload_n 2, 1), (13, .sipush 240, 3), (16, .if_icmp .ge 72, 3), (19, .aload_n 0, 1), (20, .getfield 17, 3), (23, .invokevirtual 41, 3), (26, .istore_n 3, 1), (27, .iload_n 3, 1), (28, .bipush 43, 2), (30, .if_icmp .eq 12, 3), (33, .iload_n 3, 1), (34, .bipush 45, 2), (36, .if_icmp .eq 6, 3), (39, .goto 49, 3), (42, .aload_n 0, 1), (43, .getfield 17, 3), (46, .iload_n 3, 1), (47, .invokevirtual 37, 3), (50, .ifCond .eq 11, 3), (53, .aload_n 0, 1), (54, .iload_n 1, 1), (55, .invokevirtual 69, 3), (58, .ifCond .ne 5, 3), (61, .iconst 0, 1), (62, .ireturn, 1), (63, .aload_n 0, 1), (64, .iload_n 3, 1), (65, .bipush 43, 2), (67, .if_icmp .ne 9, 3), (70, .sipush 20000, 3), (73, .goto 6, 3), (76, .sipush 20001, 3), (79, .invokevirtual 59, 3), (82, .iinc 2 1, 3), (85, .goto (-73), 3), (88, .iconst 1, 1), (89, .ireturn, 1)]
set_option maxRecDepth 100000 in
theorem dX7_readSum : mj_pd cX7_readSum pX7_readSum := mj_pdB (by decide +kernel)
theorem fX7_readSum : mj_mf mX7_readSum := ⟨mj_t3 89 (by decide +kernel) rfl, mj_t1 7 (by decide +kernel) rfl, by decide, by decide, by decide⟩
theorem iX7_readSum : Cond.instanceMethod yX7_readSum ∈ mj_GW := mj_t3 88 (by decide +kernel) rfl
theorem vX7_readSum : Cond.selects (mj_own.getD 7 "") yX7_readSum yX7_readSum ∈ mj_GW := mj_p1 10 (by decide +kernel) rfl
def mX7_readTerm : mj_m := (7, false, cX7_readTerm, 4, some .boolean, yX7_readTerm)
def pX7_readTerm : List (Nat × Instr × Nat) := [(0, .aload_n 0, 1), (1, .iload_n 1, 1), (2, .invokevirtual 72, 3), (5, .ifCond .ne 5, 3), (8, .iconst 0, 1), (9, .ireturn, 1), (10, .iconst 0, 1), (11, .istore_n 2, 1), (12, .iload_n 2, 1), (13, .sipush 240, 3), (16, .if_icmp .ge 72, 3), (19, .aload_n 0, 1), (20, .getfield 17, 3), (23, .invokevirtual 41, 3), (26, .istore_n 3, 1), (27, .iload_n 3, 1), (28, .bipush 42, 2), (30, .if_icmp .eq 12, 3), (33, .iload_n 3, 1), (34, .bipush 47, 2), (36, .if_icmp .eq 6, 3), (39, .goto 49, 3), (42, .aload_n 0, 1), (43, .getfield 17, 3), (46, .iload_n 3, 1), (47, .invokevirtual 37, 3), (50, .ifCond .eq 11, 3), (53, .aload_n 0, 1), (54, .iload_n 1, 1), (55, .invokevirtual 72, 3), (58, .ifCond .ne 5, 3), (61, .iconst 0, 1), (62, .ireturn, 1), (63, .aload_n 0, 1), (64, .iload_n 3, 1), (65, .bipush 42, 2), (67, .if_icmp .ne 9, 3), (70, .sipush 20002, 3), (73, .goto 6, 3), (76, .sipush 20003, 3), (79, .invokevirtual 59, 3), (82, .iinc 2 1, 3), (85, .goto (-73), 3), (88, .iconst 1, 1), (89, .ireturn, 1)]
set_option maxRecDepth 100000 in
theorem dX7_readTerm : mj_pd cX7_readTerm pX7_readTerm := mj_pdB (by decide +kernel)
theorem fX7_readTerm : mj_mf mX7_readTerm := ⟨mj_t3 93 (by decide +kernel) rfl, mj_t1 7 (by decide +kernel) rfl, by decide, by decide, by decide⟩
theorem iX7_readTerm : Cond.instanceMethod yX7_readTerm ∈ mj_GW := mj_t3 92 (by decide +kernel) rfl
theorem vX7_readTerm : Cond.selects (mj_own.getD 7 "") yX7_readTerm yX7_readTerm ∈ mj_GW := mj_p1 11 (by decide +kernel) rfl
def mX7_readAtom : mj_m := (7, false, cX7_readAtom, 5, some .boolean, yX7_readAtom)
def pX7_readAtom : List (Nat × Instr × Nat) := [(0, .aload_n 0, 1), (1, .getfield 17, 3), (4, .invokevirtual 41, 3), (7, .istore_n 2, 1), (8, .iload_n 2, 1), (9, .bipush 91, 2), (11, .if_icmp .ne 48, 3), (14, .iload_n 1, 1), (15, .bipush 6, 2), (17, .if_icmp .ge 40, 3), (20, .aload_n 0, 1), (21, .getfield 17, 3), (24, .iload_n 2, 1), (25, .invokevirtual 37, 3), (28, .ifCond .eq 29, 3), (31, .aload_n 0, 1), (32, .iload_n 1, 1), (33, .iconst 1, 1), (34, .iadd, 1), (35, .invokevirtual 52, 3), (38, .ifCond .eq 19, 3), (41, .aload_n 0, 1), (42, .getfield 17, 3), (45, .bipush 93, 2), (47, .invokevirtual 37, 3), (50, .ifCond .eq 7, 3), (53, .iconst 1, 1), (54, .goto 4, 3), (57, .iconst 0, 1), (58, .ireturn, 1), (59, .ldc 75, 2), (61, .iload_n 2, 1), (62, .invokestatic 77, 3), (65, .istore_n 3, 1), (66, .iload_n 3, 1), (67, .ifCond .lt 21, 3), (70, .aload_n 0, 1), (71, .sipush 10000, 3), (74, .iload_n 3, 1), (75, .iadd, 1), (76, .invokevirtual 59, 3), (79, .aload_n 0, 1), (80, .getfield 17, 3), (83, .iload_n 2, 1), (84, .invokevirtual 37, 3), (87, .ireturn, 1), (88, .aload_n 0, 1), (89, .getfield 17, 3), (92, .iconst 4, 1), (93, .invokevirtual 81, 3), (96, .istore 4, 2), (98, .iload 4, 2), (100, .iconst (-1), 1), (101, .if_icmp .ne 5, 3), (104, .iconst 0, 1), (105, .ireturn, 1), (106, .aload_n 0, 1), (107, .iload 4, 2), (109, .invokevirtual 59, 3), (112, .iconst 1, 1), (113, .ireturn, 1)]
set_option maxRecDepth 100000 in
theorem dX7_readAtom : mj_pd cX7_readAtom pX7_readAtom := mj_pdB (by decide +kernel)
theorem fX7_readAtom : mj_mf mX7_readAtom := ⟨mj_t3 97 (by decide +kernel) rfl, mj_t1 7 (by decide +kernel) rfl, by decide, by decide, by decide⟩
theorem iX7_readAtom : Cond.instanceMethod yX7_readAtom ∈ mj_GW := mj_t3 96 (by decide +kernel) rfl
theorem vX7_readAtom : Cond.selects (mj_own.getD 7 "") yX7_readAtom yX7_readAtom ∈ mj_GW := mj_p1 12 (by decide +kernel) rfl
def mX7_emit : mj_m := (7, false, cX7_emit, 2, none, yX7_emit)
def pX7_emit : List (Nat × Instr × Nat) := [(0, .aload_n 0, 1), (1, .getfield 26, 3), (4, .aload_n 0, 1), (5, .getfield 11, 3), (8, .arraylength, 1), (9, .if_icmp .ge 23, 3), (12, .aload_n 0, 1), (13, .getfield 11, 3), (16, .aload_n 0, 1), (17, .getfield 26, 3), (20, .iload_n 1, 1), (21, .iastore, 1), (22, .aload_n 0, 1), (23, .dup, 1), (24, .getfield 26, 3), (27, .iconst 1, 1), (28, .iadd, 1), (29, .putfield 26, 3), (32, .return_, 1)]
set_option maxRecDepth 100000 in
theorem dX7_emit : mj_pd cX7_emit pX7_emit := mj_pdB (by decide +kernel)
theorem fX7_emit : mj_mf mX7_emit := ⟨mj_t3 85 (by decide +kernel) rfl, mj_t1 7 (by decide +kernel) rfl, by decide, by decide, by decide⟩
theorem iX7_emit : Cond.instanceMethod yX7_emit ∈ mj_GW := mj_t3 84 (by decide +kernel) rfl
theorem vX7_emit : Cond.selects (mj_own.getD 7 "") yX7_emit yX7_emit ∈ mj_GW := mj_p1 9 (by decide +kernel) rfl
def mX8_bytesOf : mj_m := (8, false, cX8_bytesOf, 3, some .int, yX8_bytesOf)
def pX8_bytesOf : List (Nat × Instr × Nat) := [(0, .iconst 0, 1), (1, .istore_n 1, 1), (2, .bipush 24, 2), (4, .istore_n 2, 1), (5, .iload_n 2, 1), (6, .ifCond .lt 22, 3), (9, .iload_n 0, 1), (10, .iload_n 2, 1), (11, .iushr, 1), (12, .sipush 255, 3), (15, .iand, 1), (16, .ifCond .eq 6, 3), (19, .iinc 1 1, 3), (22, .iinc 2 (-8), 3), (25, .goto (-20), 3), (28, .iload_n 1, 1), (29, .ireturn, 1)]
set_option maxRecDepth 100000 in
theorem dX8_bytesOf : mj_pd cX8_bytesOf pX8_bytesOf := mj_pdB (by decide +kernel)
theorem fX8_bytesOf : mj_mf mX8_bytesOf := ⟨mj_t2 119 (by decide +kernel) rfl, mj_t1 2 (by decide +kernel) rfl, by decide, by decide, by decide⟩
theorem sX8_bytesOf : Cond.static yX8_bytesOf ∈ mj_GW := mj_t2 118 (by decide +kernel) rfl
def mX8_append : mj_m := (8, false, cX8_append, 4, none, yX8_append)
def pX8_append : List (Nat × Instr × Nat) := [(0, .bipush 24, 2), (2, .istore_n 2, 1), (3, .iload_n 2, 1), (4, .ifCond .lt 51, 3), (7, .iload_n 1, 1), (8, .iload_n 2, 1), (9, .iushr, 1), (10, .sipush 255, 3), (13, .iand, 1), (14, .istore_n 3, 1), (15, .iload_n 3, 1), (16, .ifCond .eq 33, 3), (19, .aload_n 0, 1), (20, .getfield 15, 3), (23, .sipush 240, 3), (26, .if_icmp .ge 23, 3), (29, .aload_n 0, 1), (30, .getfield 11, 3), (33, .aload_n 0, 1), (34, .getfield 15, 3), (37, .iload_n 3, 1), (38, .iastore, 1), (39, .aload_n 0, 1), (40, .dup, 1), (41, .getfield 15, 3), (44, .iconst 1, 1), (45, .iadd, 1), (46, .putfield 15, 3), (49, .iinc 2 (-8), 3), (52, .goto (-49), 3), (55, .return_, 1)]
set_option maxRecDepth 100000 in
theorem dX8_append : mj_pd cX8_append pX8_append := mj_pdB (by decide +kernel)
theorem fX8_append : mj_mf mX8_append := ⟨mj_t2 123 (by decide +kernel) rfl, mj_t1 2 (by decide +kernel) rfl, by decide, by decide, by decide⟩
theorem iX8_append : Cond.instanceMethod yX8_append ∈ mj_GW := mj_t2 121 (by decide +kernel) rfl
theorem vX8_append : Cond.selects (mj_own.getD 8 "") yX8_append yX8_append ∈ mj_GW := mj_t2 122 (by decide +kernel) rfl
def mX8_rewind : mj_m := (8, false, cX8_rewind, 1, none, yX8_rewind)
def pX8_rewind : List (Nat × Instr × Nat) := [(0, .aload_n 0, 1), (1, .iconst 0, 1), (2, .putfield 19, 3), (5, .return_, 1)]
set_option maxRecDepth 100000 in
theorem dX8_rewind : mj_pd cX8_rewind pX8_rewind := mj_pdB (by decide +kernel)
theorem fX8_rewind : mj_mf mX8_rewind := ⟨mj_t2 139 (by decide +kernel) rfl, mj_t1 2 (by decide +kernel) rfl, by decide, by decide, by decide⟩
theorem iX8_rewind : Cond.instanceMethod yX8_rewind ∈ mj_GW := mj_t2 137 (by decide +kernel) rfl
theorem vX8_rewind : Cond.selects (mj_own.getD 8 "") yX8_rewind yX8_rewind ∈ mj_GW := mj_t2 138 (by decide +kernel) rfl
def mX8_rawSign : mj_m := (8, false, cX8_rawSign, 1, some .int, yX8_rawSign)
def pX8_rawSign : List (Nat × Instr × Nat) := [(0, .aload_n 0, 1), (1, .getfield 19, 3), (4, .ifCond .lt 36, 3), (7, .aload_n 0, 1), (8, .getfield 19, 3), (11, .aload_n 0, 1), (12, .getfield 15, 3), (15, .if_icmp .ge 25, 3), (18, .aload_n 0, 1), (19, .getfield 19, 3), (22, .sipush 240, 3), (25, .if_icmp .ge 15, 3), (28, .aload_n 0, 1), (29, .getfield 11, 3), (32, .aload_n 0, 1), (33, .getfield 19, 3), (36, .iaload, 1), (37, .goto 4, 3), (40, .iconst (-1), 1), (41, .ireturn, 1)]
set_option maxRecDepth 100000 in
theorem dX8_rawSign : mj_pd cX8_rawSign pX8_rawSign := mj_pdB (by decide +kernel)
theorem fX8_rawSign : mj_mf mX8_rawSign := ⟨mj_t2 155 (by decide +kernel) rfl, mj_t1 2 (by decide +kernel) rfl, by decide, by decide, by decide⟩
theorem iX8_rawSign : Cond.instanceMethod yX8_rawSign ∈ mj_GW := mj_t2 153 (by decide +kernel) rfl
theorem vX8_rawSign : Cond.selects (mj_own.getD 8 "") yX8_rawSign yX8_rawSign ∈ mj_GW := mj_t2 154 (by decide +kernel) rfl
def mX8_nextSign : mj_m := (8, false, cX8_nextSign, 1, some .int, yX8_nextSign)
def pX8_nextSign : List (Nat × Instr × Nat) := [(0, .aload_n 0, 1), (1, .getfield 19, 3), (4, .aload_n 0, 1), (5, .getfield 15, 3), (8, .if_icmp .ge 25, 3), (11, .aload_n 0, 1), (12, .invokevirtual 22, 3), (15, .bipush 32, 2), (17, .if_icmp .ne 16, 3), (20, .aload_n 0, 1), (21, .dup, 1), (22, .getfield 19, 3), (25, .iconst 1, 1), (26, .iadd, 1), (27, .putfield 19, 3), (30, .goto (-30), 3), (33, .aload_n 0, 1), (34, .invokevirtual 22, 3), (37, .ireturn, 1)]
set_option maxRecDepth 100000 in
theorem dX8_nextSign : mj_pd cX8_nextSign pX8_nextSign := mj_pdB (by decide +kernel)
theorem fX8_nextSign : mj_mf mX8_nextSign := ⟨mj_t2 151 (by decide +kernel) rfl, mj_t1 2 (by decide +kernel) rfl, by decide, by decide, by decide⟩
theorem iX8_nextSign : Cond.instanceMethod yX8_nextSign ∈ mj_GW := mj_t2 149 (by decide +kernel) rfl
theorem vX8_nextSign : Cond.selects (mj_own.getD 8 "") yX8_nextSign yX8_nextSign ∈ mj_GW := mj_t2 150 (by decide +kernel) rfl
def mX8_take : mj_m := (8, false, cX8_take, 2, some .boolean, yX8_take)
def pX8_take : List (Nat × Instr × Nat) := [(0, .aload_n 0, 1), (1, .invokevirtual 26, 3), (4, .iload_n 1, 1), (5, .if_icmp .eq 5, 3), (8, .iconst 0, 1), (9, .ireturn, 1), (10, .aload_n 0, 1), (11, .dup, 1), (12, .getfield 19, 3), (15, .iconst 1, 1), (16, .iadd, 1), (17, .putfield 19, 3), (20, .iconst 1, 1), (21, .ireturn, 1)]
set_option maxRecDepth 100000 in
theorem dX8_take : mj_pd cX8_take pX8_take := mj_pdB (by decide +kernel)
theorem fX8_take : mj_mf mX8_take := ⟨mj_t2 159 (by decide +kernel) rfl, mj_t1 2 (by decide +kernel) rfl, by decide, by decide, by decide⟩
theorem iX8_take : Cond.instanceMethod yX8_take ∈ mj_GW := mj_t2 157 (by decide +kernel) rfl
theorem vX8_take : Cond.selects (mj_own.getD 8 "") yX8_take yX8_take ∈ mj_GW := mj_t2 158 (by decide +kernel) rfl
def mX8_takeNumber : mj_m := (8, false, cX8_takeNumber, 4, some .int, yX8_takeNumber)
def pX8_takeNumber : List (Nat × Instr × Nat) := [(0, .aload_n 0, 1), (1, .invokevirtual 26, 3), (4, .invokestatic 29, 3), (7, .ifCond .ne 5, 3), (10, .iconst (-1), 1), (11, .ireturn, 1), (12, .iconst 0, 1), (13, .istore_n 2, 1), (14, .iconst 0, 1), (15, .istore_n 3, 1), (16, .iload_n 3, 1), (17, .iload_n 1, 1), (18, .if_icmp .ge 42, 3), (21, .aload_n 0, 1), (22, .invokevirtual 22, 3), (25, .invokestatic 29, 3), (28, .ifCond .eq 32, 3), (31, .iload_n 2, 1), (32, .bipush 10, 2), (34, .imul, 1), (35, .aload_n 0, 1), (36, .invokevirtual 22, 3), (39, .iadd, 1), (40, .bipush 48, 2), (42, .isub, 1), (43, .istore_n 2, 1), (44, .aload_n 0, 1), (45, .dup, 1), (46, .getfield 19, 3), (49, .iconst 1, 1), (50, .iadd, 1), (51, .putfield 19, 3), (54, .iinc 3 1, 3), (57, .goto (-41), 3), (60, .aload_n 0, 1), (61, .invokevirtual 22, 3), (64, .invokestatic 29, 3), (67, .ifCond .eq 7, 3), (70, .iconst (-1), 1), (71, .goto 4, 3), (74, .iload_n 2, 1), (75, .ireturn, 1)]
set_option maxRecDepth 100000 in
theorem dX8_takeNumber : mj_pd cX8_takeNumber pX8_takeNumber := mj_pdB (by decide +kernel)
theorem fX8_takeNumber : mj_mf mX8_takeNumber := ⟨mj_t3 32 (by decide +kernel) rfl, mj_t1 2 (by decide +kernel) rfl, by decide, by decide, by decide⟩
theorem iX8_takeNumber : Cond.instanceMethod yX8_takeNumber ∈ mj_GW := mj_t3 30 (by decide +kernel) rfl
theorem vX8_takeNumber : Cond.selects (mj_own.getD 8 "") yX8_takeNumber yX8_takeNumber ∈ mj_GW := mj_t3 31 (by decide +kernel) rfl
def mX8_isDigit : mj_m := (8, false, cX8_isDigit, 1, some .boolean, yX8_isDigit)
def pX8_isDigit : List (Nat × Instr × Nat) := [(0, .iload_n 0, 1), (1, .bipush 48, 2), (3, .if_icmp .lt 13, 3), (6, .iload_n 0, 1), (7, .bipush 57, 2), (9, .if_icmp .gt 7, 3), (12, .iconst 1, 1), (13, .goto 4, 3), (16, .iconst 0, 1), (17, .ireturn, 1)]
set_option maxRecDepth 100000 in
theorem dX8_isDigit : mj_pd cX8_isDigit pX8_isDigit := mj_pdB (by decide +kernel)
theorem fX8_isDigit : mj_mf mX8_isDigit := ⟨mj_t3 35 (by decide +kernel) rfl, mj_t1 2 (by decide +kernel) rfl, by decide, by decide, by decide⟩
theorem sX8_isDigit : Cond.static yX8_isDigit ∈ mj_GW := mj_t3 34 (by decide +kernel) rfl
def mX8_indexIn : mj_m := (8, false, cX8_indexIn, 2, some .int, yX8_indexIn)
def pX8_indexIn : List (Nat × Instr × Nat) := [(0, .iload_n 1, 1), (1, .iconst 1, 1), (2, .if_icmp .ge 7, 3), (5, .iconst (-1), 1), (6, .goto 9, 3), (9, .aload_n 0, 1), (10, .iload_n 1, 1), (11, .i2c, 1), (12, .invokevirtual 33, 3), (15, .ireturn, 1)]
set_option maxRecDepth 100000 in
theorem dX8_indexIn : mj_pd cX8_indexIn pX8_indexIn := mj_pdB (by decide +kernel)
theorem fX8_indexIn : mj_mf mX8_indexIn := ⟨mj_t2 191 (by decide +kernel) rfl, mj_t1 2 (by decide +kernel) rfl, by decide, by decide, by decide⟩
theorem sX8_indexIn : Cond.static yX8_indexIn ∈ mj_GW := mj_t2 190 (by decide +kernel) rfl
def mX9_set : mj_m := (9, false, cX9_set, 6, none, yX9_set)
def pX9_set : List (Nat × Instr × Nat) := [(0, .aload_n 0, 1), (1, .iload_n 1, 1), (2, .iconst 5, 1), (3, .if_icmp .le 7, 3), (6, .iconst 5, 1), (7, .goto 4, 3), (10, .iload_n 1, 1), (11, .putfield 21, 3), (14, .aload_n 0, 1), (15, .iconst 1, 1), (16, .putfield 25, 3), (19, .iconst 0, 1), (20, .istore 4, 2), (22, .iload 4, 2), (24, .aload_n 0, 1), (25, .getfield 21, 3), (28, .if_icmp .ge 19, 3), (31, .aload_n 0, 1), (32, .dup, 1), (33, .getfield 25, 3), (36, .iconst 3, 1), (37, .imul, 1), (38, .putfield 25, 3), (41, .iinc 4 1, 3), (44, .goto (-22), 3), (47, .iconst 0, 1), (48, .istore 4, 2), (50, .iload 4, 2), (52, .iconst 3, 1), (53, .if_icmp .ge 39, 3), (56, .iload_n 2, 1), (57, .ifCond .ne 10, 3), (60, .iconst 2, 1), (61, .iload 4, 2), (63, .isub, 1), (64, .goto 5, 3), (67, .iload 4, 2), (69, .istore 5, 2), (71, .aload_n 0, 1), (72, .getfield 18, 3), (75, .iload 4, 2), (77, .iconst 5, 1), (78, .iload_n 3, 1), (79, .imul, 1), (80, .iload 5, 2), (82, .imul, 1), (83, .iconst 2, 1), (84, .idiv, 1), (85, .iastore, 1), (86, .iinc 4 1, 3), (89, .goto (-39), 3), (92, .return_, 1)]
set_option maxRecDepth 100000 in
theorem dX9_set : mj_pd cX9_set pX9_set := mj_pdB (by decide +kernel)
theorem fX9_set : mj_mf mX9_set := ⟨mj_t4 184 (by decide +kernel) rfl, mj_t1 11 (by decide +kernel) rfl, by decide, by decide, by decide⟩
theorem iX9_set : Cond.instanceMethod yX9_set ∈ mj_GW := mj_t4 182 (by decide +kernel) rfl
theorem vX9_set : Cond.selects (mj_own.getD 9 "") yX9_set yX9_set ∈ mj_GW := mj_t4 183 (by decide +kernel) rfl
def mX9_countRests : mj_m := (9, false, cX9_countRests, 3, some .int, yX9_countRests)
def pX9_countRests : List (Nat × Instr × Nat) := [(0, .iconst 0, 1), (1, .istore_n 1, 1), (2, .iconst 0, 1), (3, .istore_n 2, 1), (4, .iload_n 2, 1), (5, .aload_n 0, 1), (6, .getfield 25, 3), (9, .if_icmp .ge 20, 3), (12, .aload_n 0, 1), (13, .iload_n 2, 1), (14, .invokevirtual 28, 3), (17, .ifCond .eq 6, 3), (20, .iinc 1 1, 3), (23, .iinc 2 1, 3), (26, .goto (-22), 3), (29, .iload_n 1, 1), (30, .ireturn, 1)]
set_option maxRecDepth 100000 in
theorem dX9_countRests : mj_pd cX9_countRests pX9_countRests := mj_pdB (by decide +kernel)
theorem fX9_countRests : mj_mf mX9_countRests := ⟨mj_t4 188 (by decide +kernel) rfl, mj_t1 11 (by decide +kernel) rfl, by decide, by decide, by decide⟩
theorem iX9_countRests : Cond.instanceMethod yX9_countRests ∈ mj_GW := mj_t4 186 (by decide +kernel) rfl
theorem vX9_countRests : Cond.selects (mj_own.getD 9 "") yX9_countRests yX9_countRests ∈ mj_GW := mj_t4 187 (by decide +kernel) rfl
def mX9_findRest : mj_m := (9, false, cX9_findRest, 4, some .int, yX9_findRest)
def pX9_findRest : List (Nat × Instr × Nat) := [(0, .iconst 0, 1), (1, .istore_n 2, 1), (2, .iconst 0, 1), (3, .istore_n 3, 1), (4, .iload_n 3, 1), (5, .aload_n 0, 1), (6, .getfield 25, 3), (9, .if_icmp .ge 30, 3), (12, .aload_n 0, 1), (13, .iload_n 3, 1), (14, .invokevirtual 28, 3), (17, .ifCond .eq 16, 3), (20, .iload_n 2, 1), (21, .iload_n 1, 1), (22, .if_icmp .ne 8, 3), (25, .aload_n 0, 1), (26, .invokevirtual 32, 3), (29, .ireturn, 1), (30, .iinc 2 1, 3), (33, .iinc 3 1, 3), (36, .goto (-32), 3), (39, .iconst (-1), 1), (40, .ireturn, 1)]
set_option maxRecDepth 100000 in
theorem dX9_findRest : mj_pd cX9_findRest pX9_findRest := mj_pdB (by decide +kernel)
theorem fX9_findRest : mj_mf mX9_findRest := ⟨mj_t4 200 (by decide +kernel) rfl, mj_t1 11 (by decide +kernel) rfl, by decide, by decide, by decide⟩
theorem iX9_findRest : Cond.instanceMethod yX9_findRest ∈ mj_GW := mj_t4 198 (by decide +kernel) rfl
theorem vX9_findRest : Cond.selects (mj_own.getD 9 "") yX9_findRest yX9_findRest ∈ mj_GW := mj_t4 199 (by decide +kernel) rfl
def mX9_fullestOfFirstRest : mj_m := (9, false, cX9_fullestOfFirstRest, 2, some .int, yX9_fullestOfFirstRest)
def pX9_fullestOfFirstRest : List (Nat × Instr × Nat) := [(0, .aload_n 0, 1), (1, .iconst 0, 1), (2, .invokevirtual 36, 3), (5, .pop, 1), (6, .aload_n 0, 1), (7, .getfield 15, 3), (10, .iconst 0, 1), (11, .iaload, 1), (12, .aload_n 0, 1), (13, .getfield 15, 3), (16, .iconst 1, 1), (17, .iaload, 1), (18, .if_icmp .le 12, 3), (21, .aload_n 0, 1), (22, .getfield 15, 3), (25, .iconst 0, 1), (26, .iaload, 1), (27, .goto 9, 3), (30, .aload_n 0, 1), (31, .getfield 15, 3), (34, .iconst 1, 1), (35, .iaload, 1), (36, .istore_n 1, 1), (37, .aload_n 0, 1), (38, .getfield 15, 3), (41, .iconst 2, 1), (42, .iaload, 1), (43, .iload_n 1, 1), (44, .if_icmp .le 12, 3), (47, .aload_n 0, 1), (48, .getfield 15, 3), (51, .iconst 2, 1), (52, .iaload, 1), (53, .goto 4, 3), (56, .iload_n 1, 1), (57, .ireturn, 1)]
set_option maxRecDepth 100000 in
theorem dX9_fullestOfFirstRest : mj_pd cX9_fullestOfFirstRest pX9_fullestOfFirstRest := mj_pdB (by decide +kernel)
theorem fX9_fullestOfFirstRest : mj_mf mX9_fullestOfFirstRest := ⟨mj_t4 212 (by decide +kernel) rfl, mj_t1 11 (by decide +kernel) rfl, by decide, by decide, by decide⟩
theorem iX9_fullestOfFirstRest : Cond.instanceMethod yX9_fullestOfFirstRest ∈ mj_GW := mj_t4 210 (by decide +kernel) rfl
theorem vX9_fullestOfFirstRest : Cond.selects (mj_own.getD 9 "") yX9_fullestOfFirstRest yX9_fullestOfFirstRest ∈ mj_GW := mj_t4 211 (by decide +kernel) rfl
def mX9_isRest : mj_m := (9, false, cX9_isRest, 6, some .boolean, yX9_isRest)
def pX9_isRest : List (Nat × Instr × Nat) := [(0, .aload_n 0, 1), (1, .iload_n 1, 1), (2, .invokevirtual 40, 3), (5, .iconst 0, 1), (6, .istore_n 2, 1), (7, .iload_n 2, 1), (8, .aload_n 0, 1), (9, .getfield 21, 3), (12, .if_icmp .ge 80, 3), (15, .aload_n 0, 1), (16, .getfield 11, 3), (19, .iload_n 2, 1), (20, .iaload, 1), (21, .istore_n 3, 1), (22, .aload_n 0, 1), (23, .getfield 18, 3), (26, .iload_n 3, 1), (27, .iaload, 1), (28, .iconst 2, 1), (29, .aload_n 0, 1), (30, .getfield 15, 3), (33, .iload_n 3, 1), (34, .iaload, 1), (35, .iconst 1, 1), (36, .isub, 1), (37, .imul, 1), (38, .isub, 1), (39, .istore 4, 2), (41, .iconst 0, 1), (42, .istore 5, 2), (44, .iload 5, 2), (46, .iconst 3, 1), (47, .if_icmp .ge 39, 3), (50, .iload 5, 2), (52, .iload_n 3, 1), (53, .if_icmp .eq 27, 3), (56, .aload_n 0, 1), (57, .getfield 18, 3), (60, .iload 5, 2), (62, .iaload, 1), (63, .iconst 2, 1), (64, .aload_n 0, 1), (65, .getfield 15, 3), (68, .iload 5, 2), (70, .iaload, 1), (71, .imul, 1), (72, .isub, 1), (73, .iload 4, 2), (75, .if_icmp .le 5, 3), (78, .iconst 0, 1), (79, .ireturn, 1), (80, .iinc 5 1, 3), (83, .goto (-39), 3), (86, .iinc 2 1, 3), (89, .goto (-82), 3), (92, .iconst 1, 1), (93, .ireturn, 1)]
set_option maxRecDepth 100000 in
theorem dX9_isRest : mj_pd cX9_isRest pX9_isRest := mj_pdB (by decide +kernel)
theorem fX9_isRest : mj_mf mX9_isRest := ⟨mj_t4 192 (by decide +kernel) rfl, mj_t1 11 (by decide +kernel) rfl, by decide, by decide, by decide⟩
theorem iX9_isRest : Cond.instanceMethod yX9_isRest ∈ mj_GW := mj_t4 191 (by decide +kernel) rfl
theorem vX9_isRest : Cond.selects (mj_own.getD 9 "") yX9_isRest yX9_isRest ∈ mj_GW := mj_p2 13 (by decide +kernel) rfl
def mX9_spell : mj_m := (9, false, cX9_spell, 4, none, yX9_spell)
def pX9_spell : List (Nat × Instr × Nat) := [(0, .iconst 0, 1), (1, .istore_n 2, 1), (2, .iload_n 2, 1), (3, .iconst 3, 1), (4, .if_icmp .ge 16, 3), (7, .aload_n 0, 1), (8, .getfield 15, 3), (11, .iload_n 2, 1), (12, .iconst 0, 1), (13, .iastore, 1), (14, .iinc 2 1, 3), (17, .goto (-15), 3), (20, .iload_n 1, 1), (21, .istore_n 2, 1), (22, .aload_n 0, 1), (23, .getfield 21, 3), (26, .iconst 1, 1), (27, .isub, 1), (28, .istore_n 3, 1), (29, .iload_n 3, 1), (30, .ifCond .lt 37, 3), (33, .aload_n 0, 1), (34, .getfield 11, 3), (37, .iload_n 3, 1), (38, .iload_n 2, 1), (39, .iconst 3, 1), (40, .irem, 1), (41, .iastore, 1), (42, .aload_n 0, 1), (43, .getfield 15, 3), (46, .aload_n 0, 1), (47, .getfield 11, 3), (50, .iload_n 3, 1), (51, .iaload, 1), (52, .dup2, 1), (53, .iaload, 1), (54, .iconst 1, 1), (55, .iadd, 1), (56, .iastore, 1), (57, .iload_n 2, 1), (58, .iconst 3, 1), (59, .idiv, 1), (60, .istore_n 2, 1), (61, .iinc 3 (-1), 3), (64, .goto (-35), 3), (67, .return_, 1)]
set_option maxRecDepth 100000 in
theorem dX9_spell : mj_pd cX9_spell pX9_spell := mj_pdB (by decide +kernel)
theorem fX9_spell : mj_mf mX9_spell := ⟨mj_t4 196 (by decide +kernel) rfl, mj_t1 11 (by decide +kernel) rfl, by decide, by decide, by decide⟩
theorem iX9_spell : Cond.instanceMethod yX9_spell ∈ mj_GW := mj_t4 195 (by decide +kernel) rfl
theorem vX9_spell : Cond.selects (mj_own.getD 9 "") yX9_spell yX9_spell ∈ mj_GW := mj_p2 14 (by decide +kernel) rfl
def mX9_digits : mj_m := (9, false, cX9_digits, 3, some .int, yX9_digits)
def pX9_digits : List (Nat × Instr × Nat) := [(0, .iconst 0, 1), (1, .istore_n 1, 1), (2, .iconst 0, 1), (3, .istore_n 2, 1), (4, .iload_n 2, 1), (5, .aload_n 0, 1), (6, .getfield 21, 3), (9, .if_icmp .ge 21, 3), (12, .iload_n 1, 1), (13, .bipush 10, 2), (15, .imul, 1), (16, .aload_n 0, 1), (17, .getfield 11, 3), (20, .iload_n 2, 1), (21, .iaload, 1), (22, .iadd, 1), (23, .istore_n 1, 1), (24, .iinc 2 1, 3), (27, .goto (-23), 3), (30, .iload_n 1, 1), (31, .ireturn, 1)]
set_option maxRecDepth 100000 in
theorem dX9_digits : mj_pd cX9_digits pX9_digits := mj_pdB (by decide +kernel)
theorem fX9_digits : mj_mf mX9_digits := ⟨mj_t4 204 (by decide +kernel) rfl, mj_t1 11 (by decide +kernel) rfl, by decide, by decide, by decide⟩
theorem iX9_digits : Cond.instanceMethod yX9_digits ∈ mj_GW := mj_t4 203 (by decide +kernel) rfl
theorem vX9_digits : Cond.selects (mj_own.getD 9 "") yX9_digits yX9_digits ∈ mj_GW := mj_p2 15 (by decide +kernel) rfl
def mX10_findFault : mj_m := (10, false, cX10_findFault, 2, some .int, yX10_findFault)
def pX10_findFault : List (Nat × Instr × Nat) := [(0, .aload_n 0, 1), (1, .getfield 29, 3), (4, .invokevirtual 33, 3), (7, .aload_n 0, 1), (8, .iconst 0, 1), (9, .putfield 38, 3), (12, .aload_n 0, 1), (13, .getfield 25, 3), (16, .invokevirtual 42, 3), (19, .iconst 0, 1), (20, .istore_n 1, 1), (21, .iload_n 1, 1), (22, .sipush 240, 3), (25, .if_icmp .ge 39, 3), (28, .aload_n 0, 1), (29, .invokevirtual 45, 3), (32, .ifCond .ne 11, 3), (35, .aload_n 0, 1), (36, .getfield 29, 3), (39, .getfield 49, 3), (42, .ireturn, 1), (43, .aload_n 0, 1), (44, .getfield 29, 3), (47, .bipush 59, 2), (49, .invokevirtual 53, 3), (52, .ifCond .ne 6, 3), (55, .goto 9, 3), (58, .iinc 1 1, 3), (61, .goto (-40), 3), (64, .aload_n 0, 1), (65, .getfield 29, 3), (68, .invokevirtual 57, 3), (71, .iconst (-1), 1), (72, .if_icmp .eq 11, 3), (75, .aload_n 0, 1), (76, .getfield 29, 3), (79, .getfield 49, 3), (82, .ireturn, 1), (83, .aload_n 0, 1), (84, .getfield 38, 3), (87, .ifCond .eq 24, 3), (90, .aload_n 0, 1), (91, .getfield 25, 3), (94, .getfield 61, 3), (97, .ifCond .le 14, 3), (100, .aload_n 0, 1), (101, .invokevirtual 64, 3), (104, .ifCond .eq 7, 3), (107, .iconst (-1), 1), (108, .goto 10, 3), (111, .aload_n 0, 1), (112, .getfield 29, 3), (115, .getfield 67, 3), (118, .ireturn, 1)]
set_option maxRecDepth 100000 in
theorem dX10_findFault : mj_pd cX10_findFault pX10_findFault := mj_pdB (by decide +kernel)
theorem fX10_findFault : mj_mf mX10_findFault := ⟨mj_t2 135 (by decide +kernel) rfl, mj_t1 4 (by decide +kernel) rfl, by decide, by decide, by decide⟩
theorem iX10_findFault : Cond.instanceMethod yX10_findFault ∈ mj_GW := mj_t2 133 (by decide +kernel) rfl
theorem vX10_findFault : Cond.selects (mj_own.getD 10 "") yX10_findFault yX10_findFault ∈ mj_GW := mj_t2 134 (by decide +kernel) rfl
def mX10_readClause : mj_m := (10, false, cX10_readClause, 2, some .boolean, yX10_readClause)
def pX10_readClause : List (Nat × Instr × Nat) := [(0, .aload_n 0, 1), (1, .getfield 29, 3), (4, .invokevirtual 57, 3), (7, .istore_n 1, 1), (8, .iload_n 1, 1), (9, .bipush 108, 2), (11, .if_icmp .ne 39, 3), (14, .aload_n 0, 1), (15, .getfield 38, 3), (18, .ifCond .ne 32, 3), (21, .aload_n 0, 1), (22, .iconst 1, 1), (23, .putfield 38, 3), (26, .aload_n 0, 1), (27, .getfield 29, 3), (30, .iload_n 1, 1), (31, .invokevirtual 53, 3), (34, .ifCond .eq 14, 3), (37, .aload_n 0, 1), (38, .invokevirtual 70, 3), (41, .ifCond .eq 7, 3), (44, .iconst 1, 1), (45, .goto 4, 3), (48, .iconst 0, 1), (49, .ireturn, 1), (50, .iload_n 1, 1), (51, .bipush 98, 2), (53, .if_icmp .ne 37, 3), (56, .aload_n 0, 1), (57, .getfield 25, 3), (60, .getfield 61, 3), (63, .bipush 8, 2), (65, .if_icmp .ge 25, 3), (68, .aload_n 0, 1), (69, .getfield 29, 3), (72, .iload_n 1, 1), (73, .invokevirtual 53, 3), (76, .ifCond .eq 14, 3), (79, .aload_n 0, 1), (80, .invokevirtual 73, 3), (83, .ifCond .eq 7, 3), (86, .iconst 1, 1), (87, .goto 4, 3), (90, .iconst 0, 1), (91, .ireturn, 1)]
set_option maxRecDepth 100000 in
theorem dX10_readClause : mj_pd cX10_readClause pX10_readClause := mj_pdB (by decide +kernel)
theorem fX10_readClause : mj_mf mX10_readClause := ⟨mj_t2 147 (by decide +kernel) rfl, mj_t1 4 (by decide +kernel) rfl, by decide, by decide, by decide⟩
theorem iX10_readClause : Cond.instanceMethod yX10_readClause ∈ mj_GW := mj_t2 146 (by decide +kernel) rfl
theorem vX10_readClause : Cond.selects (mj_own.getD 10 "") yX10_readClause yX10_readClause ∈ mj_GW := mj_p1 0 (by decide +kernel) rfl
def mX10_readLine : mj_m := (10, false, cX10_readLine, 1, some .boolean, yX10_readLine)
def pX10_readLine : List (Nat × Instr × Nat) := [(0, .aload_n 0, 1), (1, .ldc 76, 2), (3, .getstatic 78, 3), (6, .getstatic 81, 3), (9, .getstatic 84, 3), (12, .invokevirtual 87, 3), (15, .ifCond .ne 5, 3), (18, .iconst 0, 1), (19, .ireturn, 1), (20, .aload_n 0, 1), (21, .getfield 11, 3), (24, .iconst 0, 1), (25, .aload_n 0, 1), (26, .getfield 18, 3), (29, .getfield 91, 3), (32, .iconst 0, 1), (33, .bipush 7, 2), (35, .invokestatic 94, 3), (38, .iconst 1, 1), (39, .ireturn, 1)]
set_option maxRecDepth 100000 in
theorem dX10_readLine : mj_pd cX10_readLine pX10_readLine := mj_pdB (by decide +kernel)
theorem fX10_readLine : mj_mf mX10_readLine := ⟨mj_t2 164 (by decide +kernel) rfl, mj_t1 4 (by decide +kernel) rfl, by decide, by decide, by decide⟩
theorem iX10_readLine : Cond.instanceMethod yX10_readLine ∈ mj_GW := mj_t2 163 (by decide +kernel) rfl
theorem vX10_readLine : Cond.selects (mj_own.getD 10 "") yX10_readLine yX10_readLine ∈ mj_GW := mj_p1 1 (by decide +kernel) rfl
def mX10_readBoat : mj_m := (10, false, cX10_readBoat, 1, some .boolean, yX10_readBoat)
def pX10_readBoat : List (Nat × Instr × Nat) := [(0, .aload_n 0, 1), (1, .ldc 100, 2), (3, .getstatic 102, 3), (6, .getstatic 105, 3), (9, .getstatic 108, 3), (12, .invokevirtual 87, 3), (15, .ifCond .ne 5, 3), (18, .iconst 0, 1), (19, .ireturn, 1), (20, .aload_n 0, 1), (21, .getfield 25, 3), (24, .aload_n 0, 1), (25, .getfield 11, 3), (28, .invokevirtual 111, 3), (31, .iconst 1, 1), (32, .ireturn, 1)]
set_option maxRecDepth 100000 in
theorem dX10_readBoat : mj_pd cX10_readBoat pX10_readBoat := mj_pdB (by decide +kernel)
theorem fX10_readBoat : mj_mf mX10_readBoat := ⟨mj_t3 39 (by decide +kernel) rfl, mj_t1 4 (by decide +kernel) rfl, by decide, by decide, by decide⟩
theorem iX10_readBoat : Cond.instanceMethod yX10_readBoat ∈ mj_GW := mj_t3 38 (by decide +kernel) rfl
theorem vX10_readBoat : Cond.selects (mj_own.getD 10 "") yX10_readBoat yX10_readBoat ∈ mj_GW := mj_p1 3 (by decide +kernel) rfl
def mX10_readItems : mj_m := (10, false, cX10_readItems, 9, some .boolean, yX10_readItems)
def pX10_readItems : List (Nat × Instr × Nat) := [(0, .aload 4, 2), (2, .iconst 0, 1), (3, .aload_n 0, 1), (4, .getfield 11, 3), (7, .iconst 0, 1), (8, .aload 4, 2), (10, .arraylength, 1), (11, .invokestatic 94, 3), (14, .iconst 0, 1), (15, .istore 5, 2), (17, .iconst 0, 1), (18, .istore 6, 2), (20, .iload 6, 2), (22, .aload_n 1, 1), (23, .invokevirtual 115, 3), (26, .if_icmp .ge 122, 3), (29, .aload_n 1, 1), (30, .aload_n 0, 1), (31, .getfield 29, 3), (34, .invokevirtual 57, 3), (37, .invokestatic 119, 3), (40, .istore 7, 2), (42, .iload 7, 2), (44, .ifCond .lt 14, 3), (47, .iload 5, 2), (49, .iload 7, 2), (51, .ishr, 1), (52, .iconst 1, 1), (53, .iand, 1), (54, .iconst 1, 1), (55, .if_icmp .ne 5, 3), (58, .iconst 1, 1), (59, .ireturn, 1), (60, .iload 5, 2), (62, .iconst 1, 1), (63, .iload 7, 2), (65, .ishl, 1), (66, .ior, 1), (67, .istore 5, 2), (69, .aload_n 0, 1), (70, .getfield 29, 3), (73, .dup, 1), (74, .getfield 49, 3), (77, .iconst 1, 1), (78, .iadd, 1), (79, .putfield 49, 3), (82, .aload_n 0, 1), (83, .getfield 29, 3), (86, .iconst 2, 1), (87, .invokevirtual 123, 3), (90, .istore 8, 2), (92, .iload 8, 2), (94, .iconst (-1), 1), (95, .if_icmp .ne 5, 3), (98, .iconst 0, 1), (99, .ireturn, 1), (100, .iload 8, 2), (102, .aload_n 2, 1), (103, .iload 7, 2), (105, .iaload, 1), (106, .if_icmp .lt 12, 3), (109, .iload 8, 2), (111, .aload_n 3, 1), (112, .iload 7, 2), (114, .iaload, 1), (115, .if_icmp .le 18, 3), (118, .aload_n 0, 1), (119, .getfield 29, 3), (122, .dup, 1), (123, .getfield 49, 3), (126, .iconst 1, 1), (127, .isub, 1), (128, .putfield 49, 3), (131, .iconst 0, 1), (132, .ireturn, 1), (133, .aload_n 0, 1), (134, .getfield 11, 3), (137, .iload 7, 2), (139, .iload 8, 2), (141, .iastore, 1), (142, .iinc 6 1, 3), (145, .goto (-125), 3), (148, .iconst 1, 1), (149, .ireturn, 1)]
set_option maxRecDepth 100000 in
theorem dX10_readItems : mj_pd cX10_readItems pX10_readItems := mj_pdB (by decide +kernel)
theorem fX10_readItems : mj_mf mX10_readItems := ⟨mj_t2 175 (by decide +kernel) rfl, mj_t1 4 (by decide +kernel) rfl, by decide, by decide, by decide⟩
theorem iX10_readItems : Cond.instanceMethod yX10_readItems ∈ mj_GW := mj_t2 174 (by decide +kernel) rfl
theorem vX10_readItems : Cond.selects (mj_own.getD 10 "") yX10_readItems yX10_readItems ∈ mj_GW := mj_p1 2 (by decide +kernel) rfl
def mX10_fits : mj_m := (10, false, cX10_fits, 3, some .boolean, yX10_fits)
def pX10_fits : List (Nat × Instr × Nat) := [(0, .iconst 0, 1), (1, .istore_n 1, 1), (2, .iload_n 1, 1), (3, .aload_n 0, 1), (4, .getfield 25, 3), (7, .getfield 61, 3), (10, .if_icmp .ge 108, 3), (13, .aload_n 0, 1), (14, .getfield 25, 3), (17, .getfield 127, 3), (20, .iload_n 1, 1), (21, .iaload, 1), (22, .aload_n 0, 1), (23, .getfield 25, 3), (26, .getfield 130, 3), (29, .iload_n 1, 1), (30, .iaload, 1), (31, .if_icmp .gt 22, 3), (34, .aload_n 0, 1), (35, .getfield 18, 3), (38, .aload_n 0, 1), (39, .getfield 25, 3), (42, .getfield 133, 3), (45, .iload_n 1, 1), (46, .iaload, 1), (47, .invokevirtual 136, 3), (50, .ifCond .ne 5, 3), (53, .iconst 0, 1), (54, .ireturn, 1), (55, .iconst 0, 1), (56, .istore_n 2, 1), (57, .iload_n 2, 1), (58, .iload_n 1, 1), (59, .if_icmp .ge 53, 3), (62, .aload_n 0, 1), (63, .getfield 25, 3), (66, .getfield 133, 3), (69, .iload_n 2, 1), (70, .iaload, 1), (71, .aload_n 0, 1), (72, .getfield 25, 3), (75, .getfield 133, 3), (78, .iload_n 1, 1), (79, .iaload, 1), (80, .if_icmp .ne 26, 3), (83, .aload_n 0, 1), (84, .getfield 25, 3), (87, .getfield 139, 3), (90, .iload_n 2, 1), (91, .iaload, 1), (92, .aload_n 0, 1), (93, .getfield 25, 3), (96, .getfield 139, 3), (99, .iload_n 1, 1), (100, .iaload, 1), (101, .if_icmp .ne 5, 3), (104, .iconst 0, 1), (105, .ireturn, 1), (106, .iinc 2 1, 3), (109, .goto (-52), 3), (112, .iinc 1 1, 3), (115, .goto (-113), 3), (118, .iconst 1, 1), (119, .ireturn, 1)]
set_option maxRecDepth 100000 in
theorem dX10_fits : mj_pd cX10_fits pX10_fits := mj_pdB (by decide +kernel)
theorem fX10_fits : mj_mf mX10_fits := ⟨mj_t3 54 (by decide +kernel) rfl, mj_t1 4 (by decide +kernel) rfl, by decide, by decide, by decide⟩
theorem iX10_fits : Cond.instanceMethod yX10_fits ∈ mj_GW := mj_t3 53 (by decide +kernel) rfl
theorem vX10_fits : Cond.selects (mj_own.getD 10 "") yX10_fits yX10_fits ∈ mj_GW := mj_p1 4 (by decide +kernel) rfl
def mX11_feed : mj_m := (11, false, cX11_feed, 7, some .int, yX11_feed)
def pX11_feed : List (Nat × Instr × Nat) := [(0, .iload_n 1, 1), (1, .invokestatic 105, 3), (4, .iload_n 2, 1), (5, .invokestatic 105, 3), (8, .iadd, 1), (9, .iload_n 3, 1), (10, .invokestatic 105, 3), (13, .iadd, 1), (14, .iload 4, 2), (16, .invokestatic 105, 3), (19, .iadd, 1), (20, .iload 5, 2), (22, .invokestatic 105, 3), (25, .iadd, 1), (26, .istore 6, 2), (28, .aload_n 0, 1), (29, .getfield 10, 3), (32, .getfield 109, 3), (35, .iload 6, 2), (37, .iadd, 1), (38, .sipush 240, 3), (41, .if_icmp .le 5, 3), (44, .iconst (-1), 1), (45, .ireturn, 1), (46, .aload_n 0, 1), (47, .getfield 10, 3), (50, .iload_n 1, 1), (51, .invokevirtual 113, 3), (54, .aload_n 0, 1), (55, .getfield 10, 3), (58, .iload_n 2, 1), (59, .invokevirtual 113, 3), (62, .aload_n 0, 1), (63, .getfield 10, 3), (66, .iload_n 3, 1), (67, .invokevirtual 113, 3), (70, .aload_n 0, 1), (71, .getfield 10, 3), (74, .iload 4, 2), (76, .invokevirtual 113, 3), (79, .aload_n 0, 1), (80, .getfield 10, 3), (83, .iload 5, 2), (85, .invokevirtual 113, 3), (88, .aload_n 0, 1), (89, .getfield 10, 3), (92, .getfield 109, 3), (95, .ireturn, 1)]
set_option maxRecDepth 100000 in
theorem dX11_feed : mj_pd cX11_feed pX11_feed := mj_pdB (by decide +kernel)
theorem fX11_feed : mj_mf mX11_feed := ⟨mj_t2 116 (by decide +kernel) rfl, mj_t1 1 (by decide +kernel) rfl, by decide, by decide, by decide⟩
theorem iX11_feed : Cond.instanceMethod yX11_feed ∈ mj_GW := mj_t2 114 (by decide +kernel) rfl
theorem vX11_feed : Cond.selects (mj_own.getD 11 "") yX11_feed yX11_feed ∈ mj_GW := mj_t2 115 (by decide +kernel) rfl
def mX11_end : mj_m := (11, false, cX11_end, 2, some .boolean, yX11_end)
def pX11_end : List (Nat × Instr × Nat) := [(0, .iload_n 1, 1), (1, .ifCond .lt 14, 3), (4, .iload_n 1, 1), (5, .aload_n 0, 1), (6, .getfield 10, 3), (9, .getfield 109, 3), (12, .if_icmp .le 5, 3), (15, .iconst 0, 1), (16, .ireturn, 1), (17, .aload_n 0, 1), (18, .getfield 10, 3), (21, .iload_n 1, 1), (22, .putfield 109, 3), (25, .iconst 1, 1), (26, .ireturn, 1)]
set_option maxRecDepth 100000 in
theorem dX11_end : mj_pd cX11_end pX11_end := mj_pdB (by decide +kernel)
theorem fX11_end : mj_mf mX11_end := ⟨mj_t2 127 (by decide +kernel) rfl, mj_t1 1 (by decide +kernel) rfl, by decide, by decide, by decide⟩
theorem iX11_end : Cond.instanceMethod yX11_end ∈ mj_GW := mj_t2 125 (by decide +kernel) rfl
theorem vX11_end : Cond.selects (mj_own.getD 11 "") yX11_end yX11_end ∈ mj_GW := mj_t2 126 (by decide +kernel) rfl
def mX11_fault : mj_m := (11, false, cX11_fault, 2, some .int, yX11_fault)
def pX11_fault : List (Nat × Instr × Nat) := [(0, .iload_n 1, 1), (1, .ifCond .ne 11, 3), (4, .aload_n 0, 1), (5, .getfield 28, 3), (8, .invokevirtual 117, 3), (11, .ireturn, 1), (12, .iload_n 1, 1), (13, .iconst 1, 1), (14, .if_icmp .ne 11, 3), (17, .aload_n 0, 1), (18, .getfield 35, 3), (21, .invokevirtual 121, 3), (24, .ireturn, 1), (25, .bipush (-2), 2), (27, .ireturn, 1)]
set_option maxRecDepth 100000 in
theorem dX11_fault : mj_pd cX11_fault pX11_fault := mj_pdB (by decide +kernel)
theorem fX11_fault : mj_mf mX11_fault := ⟨mj_t2 131 (by decide +kernel) rfl, mj_t1 1 (by decide +kernel) rfl, by decide, by decide, by decide⟩
theorem iX11_fault : Cond.instanceMethod yX11_fault ∈ mj_GW := mj_t2 129 (by decide +kernel) rfl
theorem vX11_fault : Cond.selects (mj_own.getD 11 "") yX11_fault yX11_fault ∈ mj_GW := mj_t2 130 (by decide +kernel) rfl
def mX11_text : mj_m := (11, false, cX11_text, 2, some .int, yX11_text)
def pX11_text : List (Nat × Instr × Nat) := [(0, .iload_n 1, 1), (1, .ifCond .ne 8, 3), (4, .aload_n 0, 1), (5, .invokevirtual 122, 3), (8, .ireturn, 1), (9, .iload_n 1, 1), (10, .iconst 1, 1), (11, .if_icmp .ne 8, 3), (14, .aload_n 0, 1), (15, .invokevirtual 125, 3), (18, .ireturn, 1), (19, .iconst (-1), 1), (20, .ireturn, 1)]
set_option maxRecDepth 100000 in
theorem dX11_text : mj_pd cX11_text pX11_text := mj_pdB (by decide +kernel)
theorem fX11_text : mj_mf mX11_text := ⟨mj_t3 112 (by decide +kernel) rfl, mj_t1 1 (by decide +kernel) rfl, by decide, by decide, by decide⟩
theorem iX11_text : Cond.instanceMethod yX11_text ∈ mj_GW := mj_t3 110 (by decide +kernel) rfl
theorem vX11_text : Cond.selects (mj_own.getD 11 "") yX11_text yX11_text ∈ mj_GW := mj_t3 111 (by decide +kernel) rfl
def mX11_takeWater : mj_m := (11, false, cX11_takeWater, 1, some .int, yX11_takeWater)
def pX11_takeWater : List (Nat × Instr × Nat) := [(0, .aload_n 0, 1), (1, .getfield 28, 3), (4, .invokevirtual 117, 3), (7, .iconst (-1), 1), (8, .if_icmp .eq 5, 3), (11, .iconst (-1), 1), (12, .ireturn, 1), (13, .aload_n 0, 1), (14, .getfield 42, 3), (17, .aload_n 0, 1), (18, .getfield 28, 3), (21, .getfield 128, 3), (24, .invokevirtual 129, 3), (27, .aload_n 0, 1), (28, .getfield 52, 3), (31, .aload_n 0, 1), (32, .getfield 28, 3), (35, .getfield 133, 3), (38, .invokevirtual 134, 3), (41, .aload_n 0, 1), (42, .getfield 56, 3), (45, .aload_n 0, 1), (46, .getfield 52, 3), (49, .invokevirtual 134, 3), (52, .aload_n 0, 1), (53, .getfield 87, 3), (56, .invokevirtual 137, 3), (59, .aload_n 0, 1), (60, .getfield 101, 3), (63, .invokevirtual 140, 3), (66, .aload_n 0, 1), (67, .iconst 0, 1), (68, .putfield 141, 3), (71, .aload_n 0, 1), (72, .getfield 10, 3), (75, .iconst 0, 1), (76, .putfield 109, 3), (79, .aload_n 0, 1), (80, .getfield 56, 3), (83, .getfield 145, 3), (86, .ireturn, 1)]
set_option maxRecDepth 100000 in
theorem dX11_takeWater : mj_pd cX11_takeWater pX11_takeWater := mj_pdB (by decide +kernel)
theorem fX11_takeWater : mj_mf mX11_takeWater := ⟨mj_t3 116 (by decide +kernel) rfl, mj_t1 1 (by decide +kernel) rfl, by decide, by decide, by decide⟩
theorem iX11_takeWater : Cond.instanceMethod yX11_takeWater ∈ mj_GW := mj_t3 115 (by decide +kernel) rfl
theorem vX11_takeWater : Cond.selects (mj_own.getD 11 "") yX11_takeWater yX11_takeWater ∈ mj_GW := mj_p1 14 (by decide +kernel) rfl
def mX11_takeRule : mj_m := (11, false, cX11_takeRule, 1, some .int, yX11_takeRule)
def pX11_takeRule : List (Nat × Instr × Nat) := [(0, .aload_n 0, 1), (1, .getfield 19, 3), (4, .getfield 148, 3), (7, .iconst 4, 1), (8, .if_icmp .ge 14, 3), (11, .aload_n 0, 1), (12, .getfield 35, 3), (15, .invokevirtual 121, 3), (18, .iconst (-1), 1), (19, .if_icmp .eq 5, 3), (22, .iconst (-1), 1), (23, .ireturn, 1), (24, .aload_n 0, 1), (25, .getfield 10, 3), (28, .iconst 0, 1), (29, .putfield 109, 3), (32, .aload_n 0, 1), (33, .getfield 19, 3), (36, .aload_n 0, 1), (37, .getfield 35, 3), (40, .getfield 149, 3), (43, .aload_n 0, 1), (44, .getfield 35, 3), (47, .getfield 153, 3), (50, .invokevirtual 156, 3), (53, .ireturn, 1)]
set_option maxRecDepth 100000 in
theorem dX11_takeRule : mj_pd cX11_takeRule pX11_takeRule := mj_pdB (by decide +kernel)
theorem fX11_takeRule : mj_mf mX11_takeRule := ⟨mj_t3 137 (by decide +kernel) rfl, mj_t1 1 (by decide +kernel) rfl, by decide, by decide, by decide⟩
theorem iX11_takeRule : Cond.instanceMethod yX11_takeRule ∈ mj_GW := mj_t3 136 (by decide +kernel) rfl
theorem vX11_takeRule : Cond.selects (mj_own.getD 11 "") yX11_takeRule yX11_takeRule ∈ mj_GW := mj_p1 15 (by decide +kernel) rfl
def mX11_boat : mj_m := (11, false, cX11_boat, 3, some .int, yX11_boat)
def pX11_boat : List (Nat × Instr × Nat) := [(0, .aload_n 0, 1), (1, .iload_n 1, 1), (2, .invokevirtual 160, 3), (5, .ifCond .eq 13, 3), (8, .iload_n 2, 1), (9, .ifCond .lt 9, 3), (12, .iload_n 2, 1), (13, .bipush 11, 2), (15, .if_icmp .le 11, 3), (18, .new 164, 3), (21, .dup, 1), (22, .invokespecial 166, 3), (25, .athrow, 1), (26, .iload_n 2, 1), (27, .tableswitch 176 0 10 #[57, 67, 77, 87, 97, 107, 117, 127, 137, 150, 163], 57), (84, .aload_n 0, 1), (85, .getfield 56, 3), (88, .getfield 167, 3), (91, .iload_n 1, 1), (92, .iaload, 1), (93, .ireturn, 1), (94, .aload_n 0, 1), (95, .getfield 56, 3), (98, .getfield 170, 3), (101, .iload_n 1, 1), (102, .iaload, 1), (103, .ireturn, 1), (104, .aload_n 0, 1), (105, .getfield 56, 3), (108, .getfield 173, 3), (111, .iload_n 1, 1), (112, .iaload, 1), (113, .ireturn, 1), (114, .aload_n 0, 1), (115, .getfield 56, 3), (118, .getfield 176, 3), (121, .iload_n 1, 1), (122, .iaload, 1), (123, .ireturn, 1), (124, .aload_n 0, 1), (125, .getfield 56, 3), (128, .getfield 179, 3), (131, .iload_n 1, 1), (132, .iaload, 1), (133, .ireturn, 1), (134, .aload_n 0, 1), (135, .getfield 56, 3), (138, .getfield 182, 3), (141, .iload_n 1, 1), (142, .iaload, 1), (143, .ireturn, 1), (144, .aload_n 0, 1), (145, .getfield 56, 3), (148, .getfield 185, 3), (151, .iload_n 1, 1), (152, .iaload, 1), (153, .ireturn, 1), (154, .aload_n 0, 1), (155, .getfield 56, 3), (158, .getfield 188, 3), (161, .iload_n 1, 1), (162, .iaload, 1), (163, .ireturn, 1), (164, .aload_n 0, 1), (165, .getfield 42, 3), (168, .aload_n 0, 1), (169, .getfield 56, 3), (172, .iload_n 1, 1), (173, .invokevirtual 191, 3), (176, .ireturn, 1), (177, .aload_n 0, 1), (178, .getfield 42, 3), (181, .aload_n 0, 1), (182, .getfield 56, 3), (185, .iload_n 1, 1), (186, .invokevirtual 195, 3), (189, .ireturn, 1), (190, .aload_n 0, 1), (191, .getfield 42, 3), (194, .aload_n 0, 1), (195, .getfield 56, 3), (198, .iload_n 1, 1), (199, .invokevirtual 198, 3), (202, .ireturn, 1), (203, .aload_n 0, 1), (204, .getfield 56, 3), (207, .iload_n 1, 1), (208, .invokevirtual 201, 3), (211, .ireturn, 1)]
set_option maxRecDepth 100000 in
theorem dX11_boat : mj_pd cX11_boat pX11_boat := mj_pdB (by decide +kernel)
theorem fX11_boat : mj_mf mX11_boat := ⟨mj_t5 77 (by decide +kernel) rfl, mj_t1 1 (by decide +kernel) rfl, by decide, by decide, by decide⟩
theorem iX11_boat : Cond.instanceMethod yX11_boat ∈ mj_GW := mj_t5 75 (by decide +kernel) rfl
theorem vX11_boat : Cond.selects (mj_own.getD 11 "") yX11_boat yX11_boat ∈ mj_GW := mj_t5 76 (by decide +kernel) rfl
def mX11_line : mj_m := (11, false, cX11_line, 2, some .int, yX11_line)
def pX11_line : List (Nat × Instr × Nat) := [(0, .aload_n 0, 1), (1, .invokevirtual 204, 3), (4, .ifCond .eq 13, 3), (7, .iload_n 1, 1), (8, .ifCond .lt 9, 3), (11, .iload_n 1, 1), (12, .bipush 7, 2), (14, .if_icmp .lt 5, 3), (17, .iconst (-1), 1), (18, .ireturn, 1), (19, .aload_n 0, 1), (20, .getfield 42, 3), (23, .getfield 208, 3), (26, .iload_n 1, 1), (27, .iaload, 1), (28, .ireturn, 1)]
set_option maxRecDepth 100000 in
theorem dX11_line : mj_pd cX11_line pX11_line := mj_pdB (by decide +kernel)
theorem fX11_line : mj_mf mX11_line := ⟨mj_t3 146 (by decide +kernel) rfl, mj_t1 1 (by decide +kernel) rfl, by decide, by decide, by decide⟩
theorem iX11_line : Cond.instanceMethod yX11_line ∈ mj_GW := mj_t3 144 (by decide +kernel) rfl
theorem vX11_line : Cond.selects (mj_own.getD 11 "") yX11_line yX11_line ∈ mj_GW := mj_t3 145 (by decide +kernel) rfl
def mX11_rule : mj_m := (11, false, cX11_rule, 3, some .int, yX11_rule)
def pX11_rule : List (Nat × Instr × Nat) := [(0, .aload_n 0, 1), (1, .iload_n 1, 1), (2, .invokevirtual 160, 3), (5, .ifCond .eq 26, 3), (8, .iload_n 2, 1), (9, .iconst (-1), 1), (10, .if_icmp .lt 21, 3), (13, .iload_n 2, 1), (14, .iconst 4, 1), (15, .if_icmp .ge 16, 3), (18, .aload_n 0, 1), (19, .getfield 56, 3), (22, .getfield 182, 3), (25, .iload_n 1, 1), (26, .iaload, 1), (27, .iload_n 2, 1), (28, .if_icmp .ne 5, 3), (31, .iconst (-1), 1), (32, .ireturn, 1), (33, .aload_n 0, 1), (34, .getfield 87, 3), (37, .aload_n 0, 1), (38, .getfield 56, 3), (41, .invokevirtual 211, 3), (44, .aload_n 0, 1), (45, .getfield 56, 3), (48, .getfield 182, 3), (51, .iload_n 1, 1), (52, .iload_n 2, 1), (53, .iastore, 1), (54, .aload_n 0, 1), (55, .getfield 87, 3), (58, .getfield 214, 3), (61, .ireturn, 1)]
set_option maxRecDepth 100000 in
theorem dX11_rule : mj_pd cX11_rule pX11_rule := mj_pdB (by decide +kernel)
theorem fX11_rule : mj_mf mX11_rule := ⟨mj_t3 154 (by decide +kernel) rfl, mj_t1 1 (by decide +kernel) rfl, by decide, by decide, by decide⟩
theorem iX11_rule : Cond.instanceMethod yX11_rule ∈ mj_GW := mj_t3 152 (by decide +kernel) rfl
theorem vX11_rule : Cond.selects (mj_own.getD 11 "") yX11_rule yX11_rule ∈ mj_GW := mj_t3 153 (by decide +kernel) rfl
def mX11_mark : mj_m := (11, false, cX11_mark, 2, some .int, yX11_mark)
def pX11_mark : List (Nat × Instr × Nat) := [(0, .aload_n 0, 1), (1, .iload_n 1, 1), (2, .invokevirtual 160, 3), (5, .ifCond .eq 16, 3), (8, .aload_n 0, 1), (9, .getfield 56, 3), (12, .getfield 185, 3), (15, .iload_n 1, 1), (16, .iaload, 1), (17, .iconst 1, 1), (18, .if_icmp .ne 5, 3), (21, .iconst (-1), 1), (22, .ireturn, 1), (23, .aload_n 0, 1), (24, .getfield 87, 3), (27, .aload_n 0, 1), (28, .getfield 56, 3), (31, .invokevirtual 211, 3), (34, .aload_n 0, 1), (35, .getfield 56, 3), (38, .getfield 185, 3), (41, .iload_n 1, 1), (42, .iconst 1, 1), (43, .iastore, 1), (44, .aload_n 0, 1), (45, .getfield 87, 3), (48, .getfield 214, 3), (51, .ireturn, 1)]
set_option maxRecDepth 100000 in
theorem dX11_mark : mj_pd cX11_mark pX11_mark := mj_pdB (by decide +kernel)
theorem fX11_mark : mj_mf mX11_mark := ⟨mj_t3 170 (by decide +kernel) rfl, mj_t1 1 (by decide +kernel) rfl, by decide, by decide, by decide⟩
theorem iX11_mark : Cond.instanceMethod yX11_mark ∈ mj_GW := mj_t3 168 (by decide +kernel) rfl
theorem vX11_mark : Cond.selects (mj_own.getD 11 "") yX11_mark yX11_mark ∈ mj_GW := mj_t3 169 (by decide +kernel) rfl
def mX11_speed : mj_m := (11, false, cX11_speed, 3, some .int, yX11_speed)
def pX11_speed : List (Nat × Instr × Nat) := [(0, .aload_n 0, 1), (1, .iload_n 1, 1), (2, .invokevirtual 160, 3), (5, .ifCond .eq 33, 3), (8, .iload_n 2, 1), (9, .ifCond .lt 29, 3), (12, .iload_n 2, 1), (13, .aload_n 0, 1), (14, .getfield 56, 3), (17, .getfield 176, 3), (20, .iload_n 1, 1), (21, .iaload, 1), (22, .if_icmp .gt 16, 3), (25, .aload_n 0, 1), (26, .getfield 56, 3), (29, .getfield 173, 3), (32, .iload_n 1, 1), (33, .iaload, 1), (34, .iload_n 2, 1), (35, .if_icmp .ne 5, 3), (38, .iconst (-1), 1), (39, .ireturn, 1), (40, .aload_n 0, 1), (41, .getfield 87, 3), (44, .aload_n 0, 1), (45, .getfield 56, 3), (48, .invokevirtual 211, 3), (51, .aload_n 0, 1), (52, .getfield 56, 3), (55, .getfield 173, 3), (58, .iload_n 1, 1), (59, .iload_n 2, 1), (60, .iastore, 1), (61, .aload_n 0, 1), (62, .getfield 87, 3), (65, .getfield 214, 3), (68, .ireturn, 1)]
set_option maxRecDepth 100000 in
theorem dX11_speed : mj_pd cX11_speed pX11_speed := mj_pdB (by decide +kernel)
theorem fX11_speed : mj_mf mX11_speed := ⟨mj_t3 174 (by decide +kernel) rfl, mj_t1 1 (by decide +kernel) rfl, by decide, by decide, by decide⟩
theorem iX11_speed : Cond.instanceMethod yX11_speed ∈ mj_GW := mj_t3 172 (by decide +kernel) rfl
theorem vX11_speed : Cond.selects (mj_own.getD 11 "") yX11_speed yX11_speed ∈ mj_GW := mj_t3 173 (by decide +kernel) rfl
def mX11_steer : mj_m := (11, false, cX11_steer, 4, some .int, yX11_steer)
def pX11_steer : List (Nat × Instr × Nat) := [(0, .aload_n 0, 1), (1, .iload_n 1, 1), (2, .invokevirtual 160, 3), (5, .ifCond .eq 13, 3), (8, .iload_n 2, 1), (9, .iconst (-1), 1), (10, .if_icmp .eq 10, 3), (13, .iload_n 2, 1), (14, .iconst 1, 1), (15, .if_icmp .eq 5, 3), (18, .iconst (-1), 1), (19, .ireturn, 1), (20, .aload_n 0, 1), (21, .getfield 56, 3), (24, .getfield 167, 3), (27, .iload_n 1, 1), (28, .iaload, 1), (29, .iload_n 2, 1), (30, .iadd, 1), (31, .istore_n 3, 1), (32, .aload_n 0, 1), (33, .getfield 42, 3), (36, .iload_n 3, 1), (37, .invokevirtual 215, 3), (40, .ifCond .eq 23, 3), (43, .aload_n 0, 1), (44, .getfield 56, 3), (47, .iload_n 3, 1), (48, .aload_n 0, 1), (49, .getfield 56, 3), (52, .getfield 170, 3), (55, .iload_n 1, 1), (56, .iaload, 1), (57, .invokevirtual 218, 3), (60, .ifCond .eq 5, 3), (63, .iconst (-1), 1), (64, .ireturn, 1), (65, .aload_n 0, 1), (66, .getfield 87, 3), (69, .aload_n 0, 1), (70, .getfield 56, 3), (73, .invokevirtual 211, 3), (76, .aload_n 0, 1), (77, .getfield 56, 3), (80, .getfield 167, 3), (83, .iload_n 1, 1), (84, .iload_n 3, 1), (85, .iastore, 1), (86, .iload_n 3, 1), (87, .ireturn, 1)]
set_option maxRecDepth 100000 in
theorem dX11_steer : mj_pd cX11_steer pX11_steer := mj_pdB (by decide +kernel)
theorem fX11_steer : mj_mf mX11_steer := ⟨mj_t3 178 (by decide +kernel) rfl, mj_t1 1 (by decide +kernel) rfl, by decide, by decide, by decide⟩
theorem iX11_steer : Cond.instanceMethod yX11_steer ∈ mj_GW := mj_t3 176 (by decide +kernel) rfl
theorem vX11_steer : Cond.selects (mj_own.getD 11 "") yX11_steer yX11_steer ∈ mj_GW := mj_t3 177 (by decide +kernel) rfl
def mX11_gust : mj_m := (11, false, cX11_gust, 2, some .boolean, yX11_gust)
def pX11_gust : List (Nat × Instr × Nat) := [(0, .iload_n 1, 1), (1, .ifCond .lt 17, 3), (4, .iload_n 1, 1), (5, .bipush 99, 2), (7, .if_icmp .gt 11, 3), (10, .iload_n 1, 1), (11, .aload_n 0, 1), (12, .getfield 222, 3), (15, .if_icmp .ne 5, 3), (18, .iconst 0, 1), (19, .ireturn, 1), (20, .aload_n 0, 1), (21, .iload_n 1, 1), (22, .putfield 222, 3), (25, .iconst 1, 1), (26, .ireturn, 1)]
set_option maxRecDepth 100000 in
theorem dX11_gust : mj_pd cX11_gust pX11_gust := mj_pdB (by decide +kernel)
theorem fX11_gust : mj_mf mX11_gust := ⟨mj_t3 187 (by decide +kernel) rfl, mj_t1 1 (by decide +kernel) rfl, by decide, by decide, by decide⟩
theorem iX11_gust : Cond.instanceMethod yX11_gust ∈ mj_GW := mj_t3 185 (by decide +kernel) rfl
theorem vX11_gust : Cond.selects (mj_own.getD 11 "") yX11_gust yX11_gust ∈ mj_GW := mj_t3 186 (by decide +kernel) rfl
def mX11_go : mj_m := (11, false, cX11_go, 3, some .int, yX11_go)
def pX11_go : List (Nat × Instr × Nat) := [(0, .aload_n 0, 1), (1, .iload_n 1, 1), (2, .invokevirtual 225, 3), (5, .ifCond .ne 5, 3), (8, .iconst (-1), 1), (9, .ireturn, 1), (10, .iconst 0, 1), (11, .istore_n 2, 1), (12, .iload_n 2, 1), (13, .iload_n 1, 1), (14, .if_icmp .ge 35, 3), (17, .aload_n 0, 1), (18, .getfield 87, 3), (21, .aload_n 0, 1), (22, .getfield 56, 3), (25, .invokevirtual 211, 3), (28, .aload_n 0, 1), (29, .getfield 73, 3), (32, .aload_n 0, 1), (33, .getfield 42, 3), (36, .aload_n 0, 1), (37, .getfield 56, 3), (40, .invokevirtual 228, 3), (43, .iinc 2 1, 3), (46, .goto (-34), 3), (49, .aload_n 0, 1), (50, .getfield 56, 3), (53, .getfield 232, 3), (56, .ireturn, 1)]
set_option maxRecDepth 100000 in
theorem dX11_go : mj_pd cX11_go pX11_go := mj_pdB (by decide +kernel)
theorem fX11_go : mj_mf mX11_go := ⟨mj_t3 191 (by decide +kernel) rfl, mj_t1 1 (by decide +kernel) rfl, by decide, by decide, by decide⟩
theorem iX11_go : Cond.instanceMethod yX11_go ∈ mj_GW := mj_t3 189 (by decide +kernel) rfl
theorem vX11_go : Cond.selects (mj_own.getD 11 "") yX11_go yX11_go ∈ mj_GW := mj_t3 190 (by decide +kernel) rfl
def mX11_blow : mj_m := (11, false, cX11_blow, 5, some .int, yX11_blow)
def pX11_blow : List (Nat × Instr × Nat) := [(0, .aload_n 0, 1), (1, .iload_n 1, 1), (2, .invokevirtual 225, 3), (5, .ifCond .ne 5, 3), (8, .iconst (-1), 1), (9, .ireturn, 1), (10, .aload_n 0, 1), (11, .getfield 80, 3), (14, .lload_n 2, 1), (15, .invokevirtual 235, 3), (18, .iconst 0, 1), (19, .istore 4, 2), (21, .iload 4, 2), (23, .iload_n 1, 1), (24, .if_icmp .ge 43, 3), (27, .aload_n 0, 1), (28, .getfield 87, 3), (31, .aload_n 0, 1), (32, .getfield 56, 3), (35, .invokevirtual 211, 3), (38, .aload_n 0, 1), (39, .getfield 73, 3), (42, .aload_n 0, 1), (43, .getfield 42, 3), (46, .aload_n 0, 1), (47, .getfield 56, 3), (50, .aload_n 0, 1), (51, .getfield 80, 3), (54, .aload_n 0, 1), (55, .getfield 222, 3), (58, .invokevirtual 239, 3), (61, .iinc 4 1, 3), (64, .goto (-43), 3), (67, .aload_n 0, 1), (68, .getfield 56, 3), (71, .getfield 232, 3), (74, .ireturn, 1)]
set_option maxRecDepth 100000 in
theorem dX11_blow : mj_pd cX11_blow pX11_blow := mj_pdB (by decide +kernel)
theorem fX11_blow : mj_mf mX11_blow := ⟨mj_t4 45 (by decide +kernel) rfl, mj_t1 1 (by decide +kernel) rfl, by decide, by decide, by decide⟩
theorem iX11_blow : Cond.instanceMethod yX11_blow ∈ mj_GW := mj_t4 43 (by decide +kernel) rfl
theorem vX11_blow : Cond.selects (mj_own.getD 11 "") yX11_blow yX11_blow ∈ mj_GW := mj_t4 44 (by decide +kernel) rfl
def mX11_canPass : mj_m := (11, false, cX11_canPass, 2, some .boolean, yX11_canPass)
def pX11_canPass : List (Nat × Instr × Nat) := [(0, .aload_n 0, 1), (1, .invokevirtual 204, 3), (4, .ifCond .eq 27, 3), (7, .iload_n 1, 1), (8, .iconst 1, 1), (9, .if_icmp .lt 22, 3), (12, .iload_n 1, 1), (13, .aload_n 0, 1), (14, .getfield 42, 3), (17, .aload_n 0, 1), (18, .getfield 56, 3), (21, .invokevirtual 243, 3), (24, .if_icmp .gt 7, 3), (27, .iconst 1, 1), (28, .goto 4, 3), (31, .iconst 0, 1), (32, .ireturn, 1)]
set_option maxRecDepth 100000 in
theorem dX11_canPass : mj_pd cX11_canPass pX11_canPass := mj_pdB (by decide +kernel)
theorem fX11_canPass : mj_mf mX11_canPass := ⟨mj_t3 195 (by decide +kernel) rfl, mj_t1 1 (by decide +kernel) rfl, by decide, by decide, by decide⟩
theorem iX11_canPass : Cond.instanceMethod yX11_canPass ∈ mj_GW := mj_t3 194 (by decide +kernel) rfl
theorem vX11_canPass : Cond.selects (mj_own.getD 11 "") yX11_canPass yX11_canPass ∈ mj_GW := mj_p2 2 (by decide +kernel) rfl
def mX11_undo : mj_m := (11, false, cX11_undo, 1, some .int, yX11_undo)
def pX11_undo : List (Nat × Instr × Nat) := [(0, .aload_n 0, 1), (1, .getfield 87, 3), (4, .getfield 214, 3), (7, .ifCond .ne 5, 3), (10, .iconst (-1), 1), (11, .ireturn, 1), (12, .aload_n 0, 1), (13, .getfield 87, 3), (16, .aload_n 0, 1), (17, .getfield 56, 3), (20, .invokevirtual 247, 3), (23, .aload_n 0, 1), (24, .getfield 87, 3), (27, .getfield 214, 3), (30, .ireturn, 1)]
set_option maxRecDepth 100000 in
theorem dX11_undo : mj_pd cX11_undo pX11_undo := mj_pdB (by decide +kernel)
theorem fX11_undo : mj_mf mX11_undo := ⟨mj_t4 67 (by decide +kernel) rfl, mj_t1 1 (by decide +kernel) rfl, by decide, by decide, by decide⟩
theorem iX11_undo : Cond.instanceMethod yX11_undo ∈ mj_GW := mj_t4 65 (by decide +kernel) rfl
theorem vX11_undo : Cond.selects (mj_own.getD 11 "") yX11_undo yX11_undo ∈ mj_GW := mj_t4 66 (by decide +kernel) rfl
def mX11_ahead : mj_m := (11, false, cX11_ahead, 3, some .int, yX11_ahead)
def pX11_ahead : List (Nat × Instr × Nat) := [(0, .aload_n 0, 1), (1, .iload_n 1, 1), (2, .invokevirtual 160, 3), (5, .ifCond .eq 12, 3), (8, .iload_n 2, 1), (9, .ifCond .lt 8, 3), (12, .iload_n 2, 1), (13, .iconst 5, 1), (14, .if_icmp .le 6, 3), (17, .ldc 250, 2), (19, .ireturn, 1), (20, .aload_n 0, 1), (21, .getfield 59, 3), (24, .aload_n 0, 1), (25, .getfield 56, 3), (28, .invokevirtual 134, 3), (31, .aload_n 0, 1), (32, .getfield 73, 3), (35, .aload_n 0, 1), (36, .getfield 42, 3), (39, .aload_n 0, 1), (40, .getfield 59, 3), (43, .invokevirtual 251, 3), (46, .iload_n 2, 1), (47, .tableswitch 89 0 4 #[33, 43, 53, 63, 76], 33), (80, .aload_n 0, 1), (81, .getfield 59, 3), (84, .getfield 167, 3), (87, .iload_n 1, 1), (88, .iaload, 1), (89, .ireturn, 1), (90, .aload_n 0, 1), (91, .getfield 59, 3), (94, .getfield 170, 3), (97, .iload_n 1, 1), (98, .iaload, 1), (99, .ireturn, 1), (100, .aload_n 0, 1), (101, .getfield 59, 3), (104, .getfield 173, 3), (107, .iload_n 1, 1), (108, .iaload, 1), (109, .ireturn, 1), (110, .aload_n 0, 1), (111, .getfield 42, 3), (114, .aload_n 0, 1), (115, .getfield 59, 3), (118, .iload_n 1, 1), (119, .invokevirtual 191, 3), (122, .ireturn, 1), (123, .aload_n 0, 1), (124, .getfield 42, 3), (127, .aload_n 0, 1), (128, .getfield 59, 3), (131, .iload_n 1, 1), (132, .invokevirtual 195, 3), (135, .ireturn, 1), (136, .aload_n 0, 1), (137, .getfield 42, 3), (140, .aload_n 0, 1), (141, .getfield 59, 3), (144, .iload_n 1, 1), (145, .invokevirtual 198, 3), (148, .ireturn, 1)]
set_option maxRecDepth 100000 in
theorem dX11_ahead : mj_pd cX11_ahead pX11_ahead := mj_pdB (by decide +kernel)
theorem fX11_ahead : mj_mf mX11_ahead := ⟨mj_t4 79 (by decide +kernel) rfl, mj_t1 1 (by decide +kernel) rfl, by decide, by decide, by decide⟩
theorem iX11_ahead : Cond.instanceMethod yX11_ahead ∈ mj_GW := mj_t4 77 (by decide +kernel) rfl
theorem vX11_ahead : Cond.selects (mj_own.getD 11 "") yX11_ahead yX11_ahead ∈ mj_GW := mj_t4 78 (by decide +kernel) rfl
def mX11_where : mj_m := (11, false, cX11_where, 7, some .int, yX11_where)
def pX11_where : List (Nat × Instr × Nat) := [(0, .aload_n 0, 1), (1, .iload_n 1, 1), (2, .invokevirtual 160, 3), (5, .ifCond .eq 10, 3), (8, .iload_n 2, 1), (9, .invokestatic 254, 3), (12, .ifCond .ne 6, 3), (15, .ldc 250, 2), (17, .ireturn, 1), (18, .ldc 250, 2), (20, .istore_n 3, 1), (21, .ldc 250, 2), (23, .istore 4, 2), (25, .iconst 0, 1), (26, .istore 5, 2), (28, .iload 5, 2), (30, .aload_n 0, 1), (31, .getfield 42, 3), (34, .getfield 208, 3), (37, .iconst 0, 1), (38, .iaload, 1), (39, .if_icmp .ge 78, 3), (42, .iload 5, 2), (44, .aload_n 0, 1), (45, .getfield 56, 3), (48, .getfield 167, 3), (51, .iload_n 1, 1), (52, .iaload, 1), (53, .if_icmp .eq 27, 3), (56, .aload_n 0, 1), (57, .getfield 56, 3), (60, .iload 5, 2), (62, .aload_n 0, 1), (63, .getfield 56, 3), (66, .getfield 170, 3), (69, .iload_n 1, 1), (70, .iaload, 1), (71, .invokevirtual 218, 3), (74, .ifCond .eq 6, 3), (77, .goto 34, 3), (80, .aload_n 0, 1), (81, .iload_n 1, 1), (82, .iload 5, 2), (84, .aload_n 0, 1), (85, .getfield 56, 3), (88, .getfield 170, 3), (91, .iload_n 1, 1), (92, .iaload, 1), (93, .invokevirtual 257, 3), (96, .istore 6, 2), (98, .iload 6, 2), (100, .iload_n 3, 1), (101, .if_icmp .le 10, 3), (104, .iload 6, 2), (106, .istore_n 3, 1), (107, .iload 5, 2), (109, .istore 4, 2), (111, .iinc 5 1, 3), (114, .goto (-86), 3), (117, .iload_n 2, 1), (118, .ifCond .ne 8, 3), (121, .iload 4, 2), (123, .goto 4, 3), (126, .iload_n 3, 1), (127, .ireturn, 1)]
set_option maxRecDepth 100000 in
theorem dX11_where : mj_pd cX11_where pX11_where := mj_pdB (by decide +kernel)
theorem fX11_where : mj_mf mX11_where := ⟨mj_t4 108 (by decide +kernel) rfl, mj_t1 1 (by decide +kernel) rfl, by decide, by decide, by decide⟩
theorem iX11_where : Cond.instanceMethod yX11_where ∈ mj_GW := mj_t4 106 (by decide +kernel) rfl
theorem vX11_where : Cond.selects (mj_own.getD 11 "") yX11_where yX11_where ∈ mj_GW := mj_t4 107 (by decide +kernel) rfl
def mX11_near : mj_m := (11, false, cX11_near, 7, some .int, yX11_near)
def pX11_near : List (Nat × Instr × Nat) := [(0, .aload_n 0, 1), (1, .iload_n 1, 1), (2, .invokevirtual 160, 3), (5, .ifCond .eq 10, 3), (8, .iload_n 2, 1), (9, .invokestatic 254, 3), (12, .ifCond .ne 6, 3), (15, .ldc 250, 2), (17, .ireturn, 1), (18, .ldc 250, 2), (20, .istore_n 3, 1), (21, .ldc 250, 2), (23, .istore 4, 2), (25, .iconst 0, 1), (26, .istore 5, 2), (28, .iload 5, 2), (30, .bipush 19, 2), (32, .if_icmp .gt 78, 3), (35, .iload 5, 2), (37, .aload_n 0, 1), (38, .getfield 56, 3), (41, .getfield 170, 3), (44, .iload_n 1, 1), (45, .iaload, 1), (46, .if_icmp .eq 27, 3), (49, .aload_n 0, 1), (50, .getfield 56, 3), (53, .aload_n 0, 1), (54, .getfield 56, 3), (57, .getfield 167, 3), (60, .iload_n 1, 1), (61, .iaload, 1), (62, .iload 5, 2), (64, .invokevirtual 218, 3), (67, .ifCond .eq 6, 3), (70, .goto 34, 3), (73, .aload_n 0, 1), (74, .iload_n 1, 1), (75, .aload_n 0, 1), (76, .getfield 56, 3), (79, .getfield 167, 3), (82, .iload_n 1, 1), (83, .iaload, 1), (84, .iload 5, 2), (86, .invokevirtual 257, 3), (89, .istore 6, 2), (91, .iload 6, 2), (93, .iload_n 3, 1), (94, .if_icmp .le 10, 3), (97, .iload 6, 2), (99, .istore_n 3, 1), (100, .iload 5, 2), (102, .istore 4, 2), (104, .iinc 5 1, 3), (107, .goto (-79), 3), (110, .iload_n 2, 1), (111, .ifCond .ne 8, 3), (114, .iload 4, 2), (116, .goto 4, 3), (119, .iload_n 3, 1), (120, .ireturn, 1)]
set_option maxRecDepth 100000 in
theorem dX11_near : mj_pd cX11_near pX11_near := mj_pdB (by decide +kernel)
theorem fX11_near : mj_mf mX11_near := ⟨mj_t4 119 (by decide +kernel) rfl, mj_t1 1 (by decide +kernel) rfl, by decide, by decide, by decide⟩
theorem iX11_near : Cond.instanceMethod yX11_near ∈ mj_GW := mj_t4 117 (by decide +kernel) rfl
theorem vX11_near : Cond.selects (mj_own.getD 11 "") yX11_near yX11_near ∈ mj_GW := mj_t4 118 (by decide +kernel) rfl
def mX11_hold : mj_m := (11, false, cX11_hold, 8, some .int, yX11_hold)
def pX11_hold : List (Nat × Instr × Nat) := [(0, .aload_n 0, 1), (1, .iload_n 1, 1), (2, .invokevirtual 160, 3), (5, .ifCond .eq 10, 3), (8, .iload_n 2, 1), (9, .invokestatic 254, 3), (12, .ifCond .ne 6, 3), (15, .ldc 250, 2), (17, .ireturn, 1), (18, .ldc 250, 2), (20, .istore_n 3, 1), (21, .ldc 250, 2), (23, .istore 4, 2), (25, .aload_n 0, 1), (26, .getfield 42, 3), (29, .aload_n 0, 1), (30, .getfield 56, 3), (33, .invokevirtual 243, 3), (36, .istore 5, 2), (38, .aload_n 0, 1), (39, .getfield 62, 3), (42, .aload_n 0, 1), (43, .getfield 56, 3), (46, .invokevirtual 134, 3), (49, .iconst 0, 1), (50, .istore 6, 2), (52, .iload 6, 2), (54, .iload 5, 2), (56, .if_icmp .gt 79, 3), (59, .aload_n 0, 1), (60, .getfield 59, 3), (63, .aload_n 0, 1), (64, .getfield 62, 3), (67, .invokevirtual 134, 3), (70, .aload_n 0, 1), (71, .getfield 73, 3), (74, .aload_n 0, 1), (75, .getfield 42, 3), (78, .aload_n 0, 1), (79, .getfield 59, 3), (82, .iload_n 1, 1), (83, .invokevirtual 261, 3), (86, .aload_n 0, 1), (87, .getfield 42, 3), (90, .aload_n 0, 1), (91, .getfield 59, 3), (94, .iload_n 1, 1), (95, .invokevirtual 195, 3), (98, .istore 7, 2), (100, .iload 7, 2), (102, .iload_n 3, 1), (103, .if_icmp .le 10, 3), (106, .iload 7, 2), (108, .istore_n 3, 1), (109, .iload 6, 2), (111, .istore 4, 2), (113, .aload_n 0, 1), (114, .getfield 73, 3), (117, .aload_n 0, 1), (118, .getfield 42, 3), (121, .aload_n 0, 1), (122, .getfield 62, 3), (125, .iload_n 1, 1), (126, .invokevirtual 265, 3), (129, .iinc 6 1, 3), (132, .goto (-80), 3), (135, .iload_n 2, 1), (136, .ifCond .ne 8, 3), (139, .iload 4, 2), (141, .goto 4, 3), (144, .iload_n 3, 1), (145, .ireturn, 1)]
set_option maxRecDepth 100000 in
theorem dX11_hold : mj_pd cX11_hold pX11_hold := mj_pdB (by decide +kernel)
theorem fX11_hold : mj_mf mX11_hold := ⟨mj_t4 123 (by decide +kernel) rfl, mj_t1 1 (by decide +kernel) rfl, by decide, by decide, by decide⟩
theorem iX11_hold : Cond.instanceMethod yX11_hold ∈ mj_GW := mj_t4 121 (by decide +kernel) rfl
theorem vX11_hold : Cond.selects (mj_own.getD 11 "") yX11_hold yX11_hold ∈ mj_GW := mj_t4 122 (by decide +kernel) rfl
def mX11_row : mj_m := (11, false, cX11_row, 4, some .int, yX11_row)
def pX11_row : List (Nat × Instr × Nat) := [(0, .aload_n 0, 1), (1, .iload_n 1, 1), (2, .invokevirtual 160, 3), (5, .ifCond .eq 14, 3), (8, .iload_n 2, 1), (9, .iconst 1, 1), (10, .if_icmp .lt 9, 3), (13, .iload_n 2, 1), (14, .bipush 9, 2), (16, .if_icmp .le 6, 3), (19, .ldc 250, 2), (21, .ireturn, 1), (22, .aload_n 0, 1), (23, .getfield 56, 3), (26, .getfield 170, 3), (29, .iload_n 1, 1), (30, .iaload, 1), (31, .iload_n 2, 1), (32, .iadd, 1), (33, .istore_n 3, 1), (34, .aload_n 0, 1), (35, .getfield 56, 3), (38, .aload_n 0, 1), (39, .getfield 56, 3), (42, .getfield 167, 3), (45, .iload_n 1, 1), (46, .iaload, 1), (47, .iload_n 3, 1), (48, .invokevirtual 218, 3), (51, .ifCond .eq 6, 3), (54, .ldc 250, 2), (56, .ireturn, 1), (57, .aload_n 0, 1), (58, .iload_n 1, 1), (59, .aload_n 0, 1), (60, .getfield 56, 3), (63, .getfield 167, 3), (66, .iload_n 1, 1), (67, .iaload, 1), (68, .iload_n 3, 1), (69, .invokevirtual 257, 3), (72, .ireturn, 1)]
set_option maxRecDepth 100000 in
theorem dX11_row : mj_pd cX11_row pX11_row := mj_pdB (by decide +kernel)
theorem fX11_row : mj_mf mX11_row := ⟨mj_t4 135 (by decide +kernel) rfl, mj_t1 1 (by decide +kernel) rfl, by decide, by decide, by decide⟩
theorem iX11_row : Cond.instanceMethod yX11_row ∈ mj_GW := mj_t4 133 (by decide +kernel) rfl
theorem vX11_row : Cond.selects (mj_own.getD 11 "") yX11_row yX11_row ∈ mj_GW := mj_t4 134 (by decide +kernel) rfl
def mX11_scoreFrom : mj_m := (11, false, cX11_scoreFrom, 4, some .int, yX11_scoreFrom)
def pX11_scoreFrom : List (Nat × Instr × Nat) := [(0, .aload_n 0, 1), (1, .getfield 59, 3), (4, .aload_n 0, 1), (5, .getfield 56, 3), (8, .invokevirtual 134, 3), (11, .aload_n 0, 1), (12, .getfield 59, 3), (15, .getfield 167, 3), (18, .iload_n 1, 1), (19, .iload_n 2, 1), (20, .iastore, 1), (21, .aload_n 0, 1), (22, .getfield 59, 3), (25, .getfield 170, 3), (28, .iload_n 1, 1), (29, .iload_n 3, 1), (30, .iastore, 1), (31, .aload_n 0, 1), (32, .getfield 73, 3), (35, .aload_n 0, 1), (36, .getfield 42, 3), (39, .aload_n 0, 1), (40, .getfield 59, 3), (43, .invokevirtual 251, 3), (46, .aload_n 0, 1), (47, .getfield 42, 3), (50, .aload_n 0, 1), (51, .getfield 59, 3), (54, .iload_n 1, 1), (55, .invokevirtual 195, 3), (58, .ireturn, 1)]
set_option maxRecDepth 100000 in
theorem dX11_scoreFrom : mj_pd cX11_scoreFrom pX11_scoreFrom := mj_pdB (by decide +kernel)
theorem fX11_scoreFrom : mj_mf mX11_scoreFrom := ⟨mj_t4 115 (by decide +kernel) rfl, mj_t1 1 (by decide +kernel) rfl, by decide, by decide, by decide⟩
theorem iX11_scoreFrom : Cond.instanceMethod yX11_scoreFrom ∈ mj_GW := mj_t4 114 (by decide +kernel) rfl
theorem vX11_scoreFrom : Cond.selects (mj_own.getD 11 "") yX11_scoreFrom yX11_scoreFrom ∈ mj_GW := mj_p2 10 (by decide +kernel) rfl
def mX11_tides : mj_m := (11, false, cX11_tides, 2, some .int, yX11_tides)
def pX11_tides : List (Nat × Instr × Nat) := [(0, .aload_n 0, 1), (1, .invokevirtual 204, 3), (4, .ifCond .ne 5, 3), (7, .iconst (-1), 1), (8, .ireturn, 1), (9, .aload_n 0, 1), (10, .getfield 42, 3), (13, .getfield 208, 3), (16, .iconst 3, 1), (17, .iaload, 1), (18, .istore_n 1, 1), (19, .iload_n 1, 1), (20, .ifCond .ne 5, 3), (23, .iconst 0, 1), (24, .ireturn, 1), (25, .aload_n 0, 1), (26, .getfield 42, 3), (29, .getfield 208, 3), (32, .iconst 5, 1), (33, .iaload, 1), (34, .iload_n 1, 1), (35, .idiv, 1), (36, .aload_n 0, 1), (37, .getfield 56, 3), (40, .getfield 232, 3), (43, .iload_n 1, 1), (44, .idiv, 1), (45, .isub, 1), (46, .ireturn, 1)]
set_option maxRecDepth 100000 in
theorem dX11_tides : mj_pd cX11_tides pX11_tides := mj_pdB (by decide +kernel)
theorem fX11_tides : mj_mf mX11_tides := ⟨mj_t4 139 (by decide +kernel) rfl, mj_t1 1 (by decide +kernel) rfl, by decide, by decide, by decide⟩
theorem iX11_tides : Cond.instanceMethod yX11_tides ∈ mj_GW := mj_t4 137 (by decide +kernel) rfl
theorem vX11_tides : Cond.selects (mj_own.getD 11 "") yX11_tides yX11_tides ∈ mj_GW := mj_t4 138 (by decide +kernel) rfl
def mX11_sag : mj_m := (11, false, cX11_sag, 7, some .int, yX11_sag)
def pX11_sag : List (Nat × Instr × Nat) := [(0, .aload_n 0, 1), (1, .invokevirtual 204, 3), (4, .ifCond .eq 10, 3), (7, .iload_n 1, 1), (8, .invokestatic 254, 3), (11, .ifCond .ne 6, 3), (14, .ldc 250, 2), (16, .ireturn, 1), (17, .aload_n 0, 1), (18, .iconst 1, 1), (19, .invokevirtual 268, 3), (22, .istore_n 2, 1), (23, .aload_n 0, 1), (24, .getfield 56, 3), (27, .getfield 145, 3), (30, .iload_n 2, 1), (31, .isub, 1), (32, .istore_n 3, 1), (33, .iload_n 2, 1), (34, .ifCond .eq 7, 3), (37, .iload_n 3, 1), (38, .ifCond .ne 6, 3), (41, .ldc 250, 2), (43, .ireturn, 1), (44, .iconst 0, 1), (45, .istore 4, 2), (47, .iconst 0, 1), (48, .istore 5, 2), (50, .iload 5, 2), (52, .aload_n 0, 1), (53, .getfield 56, 3), (56, .getfield 145, 3), (59, .if_icmp .ge 63, 3), (62, .iload 4, 2), (64, .aload_n 0, 1), (65, .getfield 42, 3), (68, .aload_n 0, 1), (69, .getfield 56, 3), (72, .getfield 167, 3), (75, .iload 5, 2), (77, .iaload, 1), (78, .invokevirtual 271, 3), (81, .iconst 1, 1), (82, .if_icmp .ne 18, 3), (85, .aload_n 0, 1), (86, .getfield 56, 3), (89, .getfield 170, 3), (92, .iload 5, 2), (94, .iaload, 1), (95, .iload_n 3, 1), (96, .imul, 1), (97, .goto 16, 3), (100, .aload_n 0, 1), (101, .getfield 56, 3), (104, .getfield 170, 3), (107, .iload 5, 2), (109, .iaload, 1), (110, .ineg, 1), (111, .iload_n 2, 1), (112, .imul, 1), (113, .iadd, 1), (114, .istore 4, 2), (116, .iinc 5 1, 3), (119, .goto (-69), 3), (122, .iload_n 2, 1), (123, .iload_n 3, 1), (124, .imul, 1), (125, .istore 5, 2), (127, .iload 4, 2), (129, .ifCond .ge 9, 3), (132, .iload 4, 2), (134, .ineg, 1), (135, .goto 5, 3), (138, .iload 4, 2), (140, .iload 5, 2), (142, .invokestatic 274, 3), (145, .istore 6, 2), (147, .iload_n 1, 1), (148, .ifCond .ne 8, 3), (151, .iload 4, 2), (153, .goto 5, 3), (156, .iload 5, 2), (158, .iload 6, 2), (160, .idiv, 1), (161, .ireturn, 1)]
set_option maxRecDepth 100000 in
theorem dX11_sag : mj_pd cX11_sag pX11_sag := mj_pdB (by decide +kernel)
theorem fX11_sag : mj_mf mX11_sag := ⟨mj_t4 143 (by decide +kernel) rfl, mj_t1 1 (by decide +kernel) rfl, by decide, by decide, by decide⟩
theorem iX11_sag : Cond.instanceMethod yX11_sag ∈ mj_GW := mj_t4 141 (by decide +kernel) rfl
theorem vX11_sag : Cond.selects (mj_own.getD 11 "") yX11_sag yX11_sag ∈ mj_GW := mj_t4 142 (by decide +kernel) rfl
def mX11_greatestCommon : mj_m := (11, false, cX11_greatestCommon, 6, some .int, yX11_greatestCommon)
def pX11_greatestCommon : List (Nat × Instr × Nat) := [(0, .iload_n 0, 1), (1, .istore_n 2, 1), (2, .iload_n 1, 1), (3, .istore_n 3, 1), (4, .iconst 0, 1), (5, .istore 4, 2), (7, .iload 4, 2), (9, .bipush 64, 2), (11, .if_icmp .ge 23, 3), (14, .iload_n 3, 1), (15, .ifCond .eq 19, 3), (18, .iload_n 2, 1), (19, .iload_n 3, 1), (20, .irem, 1), (21, .istore 5, 2), (23, .iload_n 3, 1), (24, .istore_n 2, 1), (25, .iload 5, 2), (27, .istore_n 3, 1), (28, .iinc 4 1, 3), (31, .goto (-24), 3), (34, .iload_n 2, 1), (35, .iconst 1, 1), (36, .if_icmp .ge 7, 3), (39, .iconst 1, 1), (40, .goto 4, 3), (43, .iload_n 2, 1), (44, .ireturn, 1)]
set_option maxRecDepth 100000 in
theorem dX11_greatestCommon : mj_pd cX11_greatestCommon pX11_greatestCommon := mj_pdB (by decide +kernel)
theorem fX11_greatestCommon : mj_mf mX11_greatestCommon := ⟨mj_t4 154 (by decide +kernel) rfl, mj_t1 1 (by decide +kernel) rfl, by decide, by decide, by decide⟩
theorem sX11_greatestCommon : Cond.static yX11_greatestCommon ∈ mj_GW := mj_t4 153 (by decide +kernel) rfl
def mX11_heap : mj_m := (11, false, cX11_heap, 2, some .int, yX11_heap)
def pX11_heap : List (Nat × Instr × Nat) := [(0, .aload_n 0, 1), (1, .invokevirtual 204, 3), (4, .ifCond .eq 12, 3), (7, .iload_n 1, 1), (8, .ifCond .lt 8, 3), (11, .iload_n 1, 1), (12, .iconst 2, 1), (13, .if_icmp .le 5, 3), (16, .iconst (-1), 1), (17, .ireturn, 1), (18, .aload_n 0, 1), (19, .iload_n 1, 1), (20, .invokevirtual 268, 3), (23, .ireturn, 1)]
set_option maxRecDepth 100000 in
theorem dX11_heap : mj_pd cX11_heap pX11_heap := mj_pdB (by decide +kernel)
theorem fX11_heap : mj_mf mX11_heap := ⟨mj_t4 158 (by decide +kernel) rfl, mj_t1 1 (by decide +kernel) rfl, by decide, by decide, by decide⟩
theorem iX11_heap : Cond.instanceMethod yX11_heap ∈ mj_GW := mj_t4 156 (by decide +kernel) rfl
theorem vX11_heap : Cond.selects (mj_own.getD 11 "") yX11_heap yX11_heap ∈ mj_GW := mj_t4 157 (by decide +kernel) rfl
def mX11_boatsIn : mj_m := (11, false, cX11_boatsIn, 4, some .int, yX11_boatsIn)
def pX11_boatsIn : List (Nat × Instr × Nat) := [(0, .iconst 0, 1), (1, .istore_n 2, 1), (2, .iconst 0, 1), (3, .istore_n 3, 1), (4, .iload_n 3, 1), (5, .aload_n 0, 1), (6, .getfield 56, 3), (9, .getfield 145, 3), (12, .if_icmp .ge 32, 3), (15, .aload_n 0, 1), (16, .getfield 42, 3), (19, .aload_n 0, 1), (20, .getfield 56, 3), (23, .getfield 167, 3), (26, .iload_n 3, 1), (27, .iaload, 1), (28, .invokevirtual 271, 3), (31, .iload_n 1, 1), (32, .if_icmp .ne 6, 3), (35, .iinc 2 1, 3), (38, .iinc 3 1, 3), (41, .goto (-37), 3), (44, .iload_n 2, 1), (45, .ireturn, 1)]
set_option maxRecDepth 100000 in
theorem dX11_boatsIn : mj_pd cX11_boatsIn pX11_boatsIn := mj_pdB (by decide +kernel)
theorem fX11_boatsIn : mj_mf mX11_boatsIn := ⟨mj_t4 147 (by decide +kernel) rfl, mj_t1 1 (by decide +kernel) rfl, by decide, by decide, by decide⟩
theorem iX11_boatsIn : Cond.instanceMethod yX11_boatsIn ∈ mj_GW := mj_t4 146 (by decide +kernel) rfl
theorem vX11_boatsIn : Cond.selects (mj_own.getD 11 "") yX11_boatsIn yX11_boatsIn ∈ mj_GW := mj_p2 11 (by decide +kernel) rfl
def mX11_hole : mj_m := (11, false, cX11_hole, 4, some .int, yX11_hole)
def pX11_hole : List (Nat × Instr × Nat) := [(0, .aload_n 0, 1), (1, .iload_n 1, 1), (2, .invokevirtual 160, 3), (5, .ifCond .ne 5, 3), (8, .iconst (-1), 1), (9, .ireturn, 1), (10, .iconst 0, 1), (11, .istore_n 2, 1), (12, .aload_n 0, 1), (13, .getfield 56, 3), (16, .getfield 167, 3), (19, .iload_n 1, 1), (20, .iaload, 1), (21, .iconst 1, 1), (22, .isub, 1), (23, .istore_n 3, 1), (24, .iload_n 3, 1), (25, .ifCond .lt 35, 3), (28, .aload_n 0, 1), (29, .getfield 56, 3), (32, .iload_n 3, 1), (33, .aload_n 0, 1), (34, .getfield 56, 3), (37, .getfield 170, 3), (40, .iload_n 1, 1), (41, .iaload, 1), (42, .invokevirtual 218, 3), (45, .ifCond .eq 6, 3), (48, .goto 12, 3), (51, .iinc 2 1, 3), (54, .iinc 3 (-1), 3), (57, .goto (-33), 3), (60, .iload_n 2, 1), (61, .ireturn, 1)]
set_option maxRecDepth 100000 in
theorem dX11_hole : mj_pd cX11_hole pX11_hole := mj_pdB (by decide +kernel)
theorem fX11_hole : mj_mf mX11_hole := ⟨mj_t4 162 (by decide +kernel) rfl, mj_t1 1 (by decide +kernel) rfl, by decide, by decide, by decide⟩
theorem iX11_hole : Cond.instanceMethod yX11_hole ∈ mj_GW := mj_t4 160 (by decide +kernel) rfl
theorem vX11_hole : Cond.selects (mj_own.getD 11 "") yX11_hole yX11_hole ∈ mj_GW := mj_t4 161 (by decide +kernel) rfl
def mX11_keeps : mj_m := (11, false, cX11_keeps, 4, some .int, yX11_keeps)
def pX11_keeps : List (Nat × Instr × Nat) := [(0, .aload_n 0, 1), (1, .iload_n 1, 1), (2, .invokevirtual 160, 3), (5, .ifCond .ne 5, 3), (8, .iconst (-1), 1), (9, .ireturn, 1), (10, .aload_n 0, 1), (11, .getfield 59, 3), (14, .aload_n 0, 1), (15, .getfield 56, 3), (18, .invokevirtual 134, 3), (21, .aload_n 0, 1), (22, .getfield 42, 3), (25, .aload_n 0, 1), (26, .getfield 56, 3), (29, .invokevirtual 243, 3), (32, .istore_n 2, 1), (33, .iconst 0, 1), (34, .istore_n 3, 1), (35, .iload_n 3, 1), (36, .iload_n 2, 1), (37, .if_icmp .gt 37, 3), (40, .aload_n 0, 1), (41, .getfield 59, 3), (44, .iload_n 1, 1), (45, .invokevirtual 278, 3), (48, .ifCond .eq 5, 3), (51, .iload_n 3, 1), (52, .ireturn, 1), (53, .aload_n 0, 1), (54, .getfield 73, 3), (57, .aload_n 0, 1), (58, .getfield 42, 3), (61, .aload_n 0, 1), (62, .getfield 59, 3), (65, .invokevirtual 228, 3), (68, .iinc 3 1, 3), (71, .goto (-36), 3), (74, .iconst (-1), 1), (75, .ireturn, 1)]
set_option maxRecDepth 100000 in
theorem dX11_keeps : mj_pd cX11_keeps pX11_keeps := mj_pdB (by decide +kernel)
theorem fX11_keeps : mj_mf mX11_keeps := ⟨mj_t4 166 (by decide +kernel) rfl, mj_t1 1 (by decide +kernel) rfl, by decide, by decide, by decide⟩
theorem iX11_keeps : Cond.instanceMethod yX11_keeps ∈ mj_GW := mj_t4 164 (by decide +kernel) rfl
theorem vX11_keeps : Cond.selects (mj_own.getD 11 "") yX11_keeps yX11_keeps ∈ mj_GW := mj_t4 165 (by decide +kernel) rfl
def mX11_which : mj_m := (11, false, cX11_which, 4, some .int, yX11_which)
def pX11_which : List (Nat × Instr × Nat) := [(0, .aload_n 0, 1), (1, .invokevirtual 204, 3), (4, .ifCond .eq 12, 3), (7, .iload_n 1, 1), (8, .ifCond .lt 8, 3), (11, .iload_n 1, 1), (12, .iconst 2, 1), (13, .if_icmp .le 5, 3), (16, .iconst (-1), 1), (17, .ireturn, 1), (18, .iconst 0, 1), (19, .istore_n 2, 1), (20, .iconst 0, 1), (21, .istore_n 3, 1), (22, .iload_n 3, 1), (23, .aload_n 0, 1), (24, .getfield 56, 3), (27, .getfield 145, 3), (30, .if_icmp .ge 24, 3), (33, .aload_n 0, 1), (34, .iload_n 3, 1), (35, .iload_n 1, 1), (36, .invokevirtual 281, 3), (39, .ifCond .eq 9, 3), (42, .iload_n 2, 1), (43, .iconst 1, 1), (44, .iload_n 3, 1), (45, .ishl, 1), (46, .ior, 1), (47, .istore_n 2, 1), (48, .iinc 3 1, 3), (51, .goto (-29), 3), (54, .iload_n 2, 1), (55, .ireturn, 1)]
set_option maxRecDepth 100000 in
theorem dX11_which : mj_pd cX11_which pX11_which := mj_pdB (by decide +kernel)
theorem fX11_which : mj_mf mX11_which := ⟨mj_t4 171 (by decide +kernel) rfl, mj_t1 1 (by decide +kernel) rfl, by decide, by decide, by decide⟩
theorem iX11_which : Cond.instanceMethod yX11_which ∈ mj_GW := mj_t4 169 (by decide +kernel) rfl
theorem vX11_which : Cond.selects (mj_own.getD 11 "") yX11_which yX11_which ∈ mj_GW := mj_t4 170 (by decide +kernel) rfl
def mX11_isAmong : mj_m := (11, false, cX11_isAmong, 3, some .boolean, yX11_isAmong)
def pX11_isAmong : List (Nat × Instr × Nat) := [(0, .iload_n 2, 1), (1, .lookupswitch 62 #[(0, 27), (1, 44)], 27), (28, .aload_n 0, 1), (29, .getfield 56, 3), (32, .iload_n 1, 1), (33, .invokevirtual 284, 3), (36, .ifCond .ne 7, 3), (39, .iconst 1, 1), (40, .goto 4, 3), (43, .iconst 0, 1), (44, .ireturn, 1), (45, .aload_n 0, 1), (46, .getfield 56, 3), (49, .getfield 170, 3), (52, .iload_n 1, 1), (53, .iaload, 1), (54, .ifCond .ge 7, 3), (57, .iconst 1, 1), (58, .goto 4, 3), (61, .iconst 0, 1), (62, .ireturn, 1), (63, .aload_n 0, 1), (64, .getfield 42, 3), (67, .aload_n 0, 1), (68, .getfield 56, 3), (71, .iload_n 1, 1), (72, .invokevirtual 191, 3), (75, .iconst 2, 1), (76, .if_icmp .ne 7, 3), (79, .iconst 1, 1), (80, .goto 4, 3), (83, .iconst 0, 1), (84, .ireturn, 1)]
set_option maxRecDepth 100000 in
theorem dX11_isAmong : mj_pd cX11_isAmong pX11_isAmong := mj_pdB (by decide +kernel)
theorem fX11_isAmong : mj_mf mX11_isAmong := ⟨mj_t4 175 (by decide +kernel) rfl, mj_t1 1 (by decide +kernel) rfl, by decide, by decide, by decide⟩
theorem iX11_isAmong : Cond.instanceMethod yX11_isAmong ∈ mj_GW := mj_t4 174 (by decide +kernel) rfl
theorem vX11_isAmong : Cond.selects (mj_own.getD 11 "") yX11_isAmong yX11_isAmong ∈ mj_GW := mj_p2 12 (by decide +kernel) rfl
def mX11_rests : mj_m := (11, false, cX11_rests, 2, some .int, yX11_rests)
def pX11_rests : List (Nat × Instr × Nat) := [(0, .aload_n 0, 1), (1, .invokevirtual 204, 3), (4, .ifCond .ne 5, 3), (7, .iconst (-1), 1), (8, .ireturn, 1), (9, .aload_n 0, 1), (10, .getfield 56, 3), (13, .getfield 145, 3), (16, .iconst 5, 1), (17, .if_icmp .le 6, 3), (20, .ldc 250, 2), (22, .ireturn, 1), (23, .aload_n 0, 1), (24, .getfield 94, 3), (27, .aload_n 0, 1), (28, .getfield 56, 3), (31, .getfield 145, 3), (34, .aload_n 0, 1), (35, .getfield 42, 3), (38, .getfield 208, 3), (41, .iconst 2, 1), (42, .iaload, 1), (43, .aload_n 0, 1), (44, .getfield 42, 3), (47, .getfield 208, 3), (50, .iconst 1, 1), (51, .iaload, 1), (52, .invokevirtual 287, 3), (55, .iload_n 1, 1), (56, .iconst (-1), 1), (57, .if_icmp .ne 13, 3), (60, .aload_n 0, 1), (61, .getfield 94, 3), (64, .invokevirtual 291, 3), (67, .goto 11, 3), (70, .aload_n 0, 1), (71, .getfield 94, 3), (74, .iload_n 1, 1), (75, .invokevirtual 294, 3), (78, .ireturn, 1)]
set_option maxRecDepth 100000 in
theorem dX11_rests : mj_pd cX11_rests pX11_rests := mj_pdB (by decide +kernel)
theorem fX11_rests : mj_mf mX11_rests := ⟨mj_t4 180 (by decide +kernel) rfl, mj_t1 1 (by decide +kernel) rfl, by decide, by decide, by decide⟩
theorem iX11_rests : Cond.instanceMethod yX11_rests ∈ mj_GW := mj_t4 178 (by decide +kernel) rfl
theorem vX11_rests : Cond.selects (mj_own.getD 11 "") yX11_rests yX11_rests ∈ mj_GW := mj_t4 179 (by decide +kernel) rfl
def mX11_spread : mj_m := (11, false, cX11_spread, 6, some .int, yX11_spread)
def pX11_spread : List (Nat × Instr × Nat) := [(0, .aload_n 0, 1), (1, .invokevirtual 204, 3), (4, .ifCond .eq 10, 3), (7, .iload_n 1, 1), (8, .invokestatic 254, 3), (11, .ifCond .ne 5, 3), (14, .iconst (-1), 1), (15, .ireturn, 1), (16, .aload_n 0, 1), (17, .getfield 56, 3), (20, .getfield 145, 3), (23, .iconst 5, 1), (24, .if_icmp .le 6, 3), (27, .ldc 250, 2), (29, .ireturn, 1), (30, .bipush 9, 2), (32, .istore_n 2, 1), (33, .iconst 0, 1), (34, .istore_n 3, 1), (35, .iconst 0, 1), (36, .istore 4, 2), (38, .iload 4, 2), (40, .bipush 9, 2), (42, .if_icmp .gt 55, 3), (45, .aload_n 0, 1), (46, .getfield 94, 3), (49, .aload_n 0, 1), (50, .getfield 56, 3), (53, .getfield 145, 3), (56, .aload_n 0, 1), (57, .getfield 42, 3), (60, .getfield 208, 3), (63, .iconst 2, 1), (64, .iaload, 1), (65, .iload 4, 2), (67, .invokevirtual 287, 3), (70, .aload_n 0, 1), (71, .getfield 94, 3), (74, .invokevirtual 297, 3), (77, .istore 5, 2), (79, .iload 5, 2), (81, .iload_n 2, 1), (82, .if_icmp .ge 9, 3), (85, .iload 5, 2), (87, .istore_n 2, 1), (88, .iload 4, 2), (90, .istore_n 3, 1), (91, .iinc 4 1, 3), (94, .goto (-56), 3), (97, .iload_n 1, 1), (98, .ifCond .ne 7, 3), (101, .iload_n 3, 1), (102, .goto 4, 3), (105, .iload_n 2, 1), (106, .ireturn, 1)]
set_option maxRecDepth 100000 in
theorem dX11_spread : mj_pd cX11_spread pX11_spread := mj_pdB (by decide +kernel)
theorem fX11_spread : mj_mf mX11_spread := ⟨mj_t4 208 (by decide +kernel) rfl, mj_t1 1 (by decide +kernel) rfl, by decide, by decide, by decide⟩
theorem iX11_spread : Cond.instanceMethod yX11_spread ∈ mj_GW := mj_t4 206 (by decide +kernel) rfl
theorem vX11_spread : Cond.selects (mj_own.getD 11 "") yX11_spread yX11_spread ∈ mj_GW := mj_t4 207 (by decide +kernel) rfl
def mX11_duel : mj_m := (11, false, cX11_duel, 3, some .int, yX11_duel)
def pX11_duel : List (Nat × Instr × Nat) := [(0, .aload_n 0, 1), (1, .invokevirtual 204, 3), (4, .ifCond .eq 25, 3), (7, .aload_n 0, 1), (8, .getfield 19, 3), (11, .iload_n 1, 1), (12, .invokevirtual 300, 3), (15, .ifCond .eq 14, 3), (18, .aload_n 0, 1), (19, .getfield 19, 3), (22, .iload_n 2, 1), (23, .invokevirtual 300, 3), (26, .ifCond .ne 6, 3), (29, .ldc 250, 2), (31, .ireturn, 1), (32, .aload_n 0, 1), (33, .iload_n 1, 1), (34, .iload_n 2, 1), (35, .invokevirtual 303, 3), (38, .ireturn, 1)]
set_option maxRecDepth 100000 in
theorem dX11_duel : mj_pd cX11_duel pX11_duel := mj_pdB (by decide +kernel)
theorem fX11_duel : mj_mf mX11_duel := ⟨mj_t4 217 (by decide +kernel) rfl, mj_t1 1 (by decide +kernel) rfl, by decide, by decide, by decide⟩
theorem iX11_duel : Cond.instanceMethod yX11_duel ∈ mj_GW := mj_t4 215 (by decide +kernel) rfl
theorem vX11_duel : Cond.selects (mj_own.getD 11 "") yX11_duel yX11_duel ∈ mj_GW := mj_t4 216 (by decide +kernel) rfl
def mX11_duelOf : mj_m := (11, false, cX11_duelOf, 3, some .int, yX11_duelOf)
def pX11_duelOf : List (Nat × Instr × Nat) := [(0, .aload_n 0, 1), (1, .getfield 46, 3), (4, .aload_n 0, 1), (5, .getfield 42, 3), (8, .getfield 208, 3), (11, .iconst 5, 1), (12, .iaload, 1), (13, .invokevirtual 306, 3), (16, .aload_n 0, 1), (17, .getfield 59, 3), (20, .iload_n 1, 1), (21, .iload_n 2, 1), (22, .invokevirtual 309, 3), (25, .aload_n 0, 1), (26, .getfield 73, 3), (29, .aload_n 0, 1), (30, .getfield 46, 3), (33, .aload_n 0, 1), (34, .getfield 59, 3), (37, .invokevirtual 251, 3), (40, .aload_n 0, 1), (41, .getfield 46, 3), (44, .aload_n 0, 1), (45, .getfield 59, 3), (48, .iconst 0, 1), (49, .invokevirtual 195, 3), (52, .aload_n 0, 1), (53, .getfield 46, 3), (56, .aload_n 0, 1), (57, .getfield 59, 3), (60, .iconst 1, 1), (61, .invokevirtual 195, 3), (64, .isub, 1), (65, .ireturn, 1)]
set_option maxRecDepth 100000 in
theorem dX11_duelOf : mj_pd cX11_duelOf pX11_duelOf := mj_pdB (by decide +kernel)
theorem fX11_duelOf : mj_mf mX11_duelOf := ⟨mj_t4 222 (by decide +kernel) rfl, mj_t1 1 (by decide +kernel) rfl, by decide, by decide, by decide⟩
theorem iX11_duelOf : Cond.instanceMethod yX11_duelOf ∈ mj_GW := mj_t4 221 (by decide +kernel) rfl
theorem vX11_duelOf : Cond.selects (mj_own.getD 11 "") yX11_duelOf yX11_duelOf ∈ mj_GW := mj_p3 0 (by decide +kernel) rfl
def mX11_reply : mj_m := (11, false, cX11_reply, 6, some .int, yX11_reply)
def pX11_reply : List (Nat × Instr × Nat) := [(0, .aload_n 0, 1), (1, .invokevirtual 204, 3), (4, .ifCond .eq 14, 3), (7, .aload_n 0, 1), (8, .getfield 19, 3), (11, .iload_n 1, 1), (12, .invokevirtual 300, 3), (15, .ifCond .ne 5, 3), (18, .iconst (-1), 1), (19, .ireturn, 1), (20, .ldc 250, 2), (22, .istore_n 2, 1), (23, .iconst (-1), 1), (24, .istore_n 3, 1), (25, .iconst 0, 1), (26, .istore 4, 2), (28, .iload 4, 2), (30, .aload_n 0, 1), (31, .getfield 19, 3), (34, .getfield 148, 3), (37, .if_icmp .ge 30, 3), (40, .aload_n 0, 1), (41, .iload 4, 2), (43, .iload_n 1, 1), (44, .invokevirtual 303, 3), (47, .istore 5, 2), (49, .iload 5, 2), (51, .iload_n 2, 1), (52, .if_icmp .le 9, 3), (55, .iload 5, 2), (57, .istore_n 2, 1), (58, .iload 4, 2), (60, .istore_n 3, 1), (61, .iinc 4 1, 3), (64, .goto (-36), 3), (67, .iload_n 3, 1), (68, .ireturn, 1)]
set_option maxRecDepth 100000 in
theorem dX11_reply : mj_pd cX11_reply pX11_reply := mj_pdB (by decide +kernel)
theorem fX11_reply : mj_mf mX11_reply := ⟨mj_t4 239 (by decide +kernel) rfl, mj_t1 1 (by decide +kernel) rfl, by decide, by decide, by decide⟩
theorem iX11_reply : Cond.instanceMethod yX11_reply ∈ mj_GW := mj_t4 237 (by decide +kernel) rfl
theorem vX11_reply : Cond.selects (mj_own.getD 11 "") yX11_reply yX11_reply ∈ mj_GW := mj_t4 238 (by decide +kernel) rfl
def mX11_strong : mj_m := (11, false, cX11_strong, 6, some .int, yX11_strong)
def pX11_strong : List (Nat × Instr × Nat) := [(0, .aload_n 0, 1), (1, .invokevirtual 204, 3), (4, .ifCond .ne 5, 3), (7, .iconst (-1), 1), (8, .ireturn, 1), (9, .ldc 250, 2), (11, .istore_n 1, 1), (12, .iconst (-1), 1), (13, .istore_n 2, 1), (14, .iconst 0, 1), (15, .istore_n 3, 1), (16, .iload_n 3, 1), (17, .aload_n 0, 1), (18, .getfield 19, 3), (21, .getfield 148, 3), (24, .if_icmp .ge 56, 3), (27, .iconst 0, 1), (28, .istore 4, 2), (30, .iconst 0, 1), (31, .istore 5, 2), (33, .iload 5, 2), (35, .aload_n 0, 1), (36, .getfield 19, 3), (39, .getfield 148, 3), (42, .if_icmp .ge 21, 3), (45, .iload 4, 2), (47, .aload_n 0, 1), (48, .iload_n 3, 1), (49, .iload 5, 2), (51, .invokevirtual 303, 3), (54, .iadd, 1), (55, .istore 4, 2), (57, .iinc 5 1, 3), (60, .goto (-27), 3), (63, .iload 4, 2), (65, .iload_n 1, 1), (66, .if_icmp .le 8, 3), (69, .iload 4, 2), (71, .istore_n 1, 1), (72, .iload_n 3, 1), (73, .istore_n 2, 1), (74, .iinc 3 1, 3), (77, .goto (-61), 3), (80, .iload_n 2, 1), (81, .ireturn, 1)]
set_option maxRecDepth 100000 in
theorem dX11_strong : mj_pd cX11_strong pX11_strong := mj_pdB (by decide +kernel)
theorem fX11_strong : mj_mf mX11_strong := ⟨mj_t5 3 (by decide +kernel) rfl, mj_t1 1 (by decide +kernel) rfl, by decide, by decide, by decide⟩
theorem iX11_strong : Cond.instanceMethod yX11_strong ∈ mj_GW := mj_t5 1 (by decide +kernel) rfl
theorem vX11_strong : Cond.selects (mj_own.getD 11 "") yX11_strong yX11_strong ∈ mj_GW := mj_t5 2 (by decide +kernel) rfl
def mX11_picture : mj_m := (11, false, cX11_picture, 4, some .int, yX11_picture)
def pX11_picture : List (Nat × Instr × Nat) := [(0, .aload_n 0, 1), (1, .iload_n 1, 1), (2, .invokevirtual 160, 3), (5, .ifCond .eq 15, 3), (8, .aload_n 0, 1), (9, .getfield 101, 3), (12, .iload_n 2, 1), (13, .iload_n 3, 1), (14, .invokevirtual 312, 3), (17, .ifCond .ne 5, 3), (20, .iconst (-1), 1), (21, .ireturn, 1), (22, .aload_n 0, 1), (23, .getfield 101, 3), (26, .iload_n 1, 1), (27, .iload_n 2, 1), (28, .iload_n 3, 1), (29, .invokevirtual 315, 3), (32, .ireturn, 1)]
set_option maxRecDepth 100000 in
theorem dX11_picture : mj_pd cX11_picture pX11_picture := mj_pdB (by decide +kernel)
theorem fX11_picture : mj_mf mX11_picture := ⟨mj_t5 7 (by decide +kernel) rfl, mj_t1 1 (by decide +kernel) rfl, by decide, by decide, by decide⟩
theorem iX11_picture : Cond.instanceMethod yX11_picture ∈ mj_GW := mj_t5 5 (by decide +kernel) rfl
theorem vX11_picture : Cond.selects (mj_own.getD 11 "") yX11_picture yX11_picture ∈ mj_GW := mj_t5 6 (by decide +kernel) rfl
def mX11_was : mj_m := (11, false, cX11_was, 4, some .int, yX11_was)
def pX11_was : List (Nat × Instr × Nat) := [(0, .aload_n 0, 1), (1, .invokevirtual 204, 3), (4, .ifCond .eq 12, 3), (7, .iload_n 1, 1), (8, .ifCond .lt 8, 3), (11, .iload_n 1, 1), (12, .iconst 2, 1), (13, .if_icmp .le 5, 3), (16, .iconst (-1), 1), (17, .ireturn, 1), (18, .iconst 0, 1), (19, .istore_n 2, 1), (20, .iconst 0, 1), (21, .istore_n 3, 1), (22, .iload_n 3, 1), (23, .aload_n 0, 1), (24, .getfield 56, 3), (27, .getfield 145, 3), (30, .if_icmp .ge 27, 3), (33, .aload_n 0, 1), (34, .getfield 101, 3), (37, .iload_n 3, 1), (38, .iload_n 1, 1), (39, .invokevirtual 318, 3), (42, .ifCond .eq 9, 3), (45, .iload_n 2, 1), (46, .iconst 1, 1), (47, .iload_n 3, 1), (48, .ishl, 1), (49, .ior, 1), (50, .istore_n 2, 1), (51, .iinc 3 1, 3), (54, .goto (-32), 3), (57, .iload_n 2, 1), (58, .ireturn, 1)]
set_option maxRecDepth 100000 in
theorem dX11_was : mj_pd cX11_was pX11_was := mj_pdB (by decide +kernel)
theorem fX11_was : mj_mf mX11_was := ⟨mj_t5 19 (by decide +kernel) rfl, mj_t1 1 (by decide +kernel) rfl, by decide, by decide, by decide⟩
theorem iX11_was : Cond.instanceMethod yX11_was ∈ mj_GW := mj_t5 17 (by decide +kernel) rfl
theorem vX11_was : Cond.selects (mj_own.getD 11 "") yX11_was yX11_was ∈ mj_GW := mj_t5 18 (by decide +kernel) rfl
def mX11_race : mj_m := (11, false, cX11_race, 1, some .int, yX11_race)
def pX11_race : List (Nat × Instr × Nat) := [(0, .aload_n 0, 1), (1, .invokevirtual 204, 3), (4, .ifCond .eq 29, 3), (7, .aload_n 0, 1), (8, .getfield 42, 3), (11, .aload_n 0, 1), (12, .getfield 56, 3), (15, .invokevirtual 243, 3), (18, .ifCond .gt 15, 3), (21, .aload_n 0, 1), (22, .getfield 101, 3), (25, .getfield 321, 3), (28, .bipush 40, 2), (30, .if_icmp .lt 5, 3), (33, .iconst (-1), 1), (34, .ireturn, 1), (35, .aload_n 0, 1), (36, .getfield 101, 3), (39, .aload_n 0, 1), (40, .getfield 42, 3), (43, .aload_n 0, 1), (44, .getfield 56, 3), (47, .invokevirtual 324, 3), (50, .ireturn, 1)]
set_option maxRecDepth 100000 in
theorem dX11_race : mj_pd cX11_race pX11_race := mj_pdB (by decide +kernel)
theorem fX11_race : mj_mf mX11_race := ⟨mj_t5 27 (by decide +kernel) rfl, mj_t1 1 (by decide +kernel) rfl, by decide, by decide, by decide⟩
theorem iX11_race : Cond.instanceMethod yX11_race ∈ mj_GW := mj_t5 25 (by decide +kernel) rfl
theorem vX11_race : Cond.selects (mj_own.getD 11 "") yX11_race yX11_race ∈ mj_GW := mj_t5 26 (by decide +kernel) rfl
def mX11_points : mj_m := (11, false, cX11_points, 2, some .int, yX11_points)
def pX11_points : List (Nat × Instr × Nat) := [(0, .aload_n 0, 1), (1, .iload_n 1, 1), (2, .invokevirtual 160, 3), (5, .ifCond .eq 15, 3), (8, .aload_n 0, 1), (9, .getfield 101, 3), (12, .getfield 328, 3), (15, .iload_n 1, 1), (16, .iaload, 1), (17, .goto 4, 3), (20, .iconst (-1), 1), (21, .ireturn, 1)]
set_option maxRecDepth 100000 in
theorem dX11_points : mj_pd cX11_points pX11_points := mj_pdB (by decide +kernel)
theorem fX11_points : mj_mf mX11_points := ⟨mj_t5 36 (by decide +kernel) rfl, mj_t1 1 (by decide +kernel) rfl, by decide, by decide, by decide⟩
theorem iX11_points : Cond.instanceMethod yX11_points ∈ mj_GW := mj_t5 34 (by decide +kernel) rfl
theorem vX11_points : Cond.selects (mj_own.getD 11 "") yX11_points yX11_points ∈ mj_GW := mj_t5 35 (by decide +kernel) rfl
def mX11_champion : mj_m := (11, false, cX11_champion, 3, some .int, yX11_champion)
def pX11_champion : List (Nat × Instr × Nat) := [(0, .aload_n 0, 1), (1, .invokevirtual 204, 3), (4, .ifCond .eq 13, 3), (7, .aload_n 0, 1), (8, .getfield 101, 3), (11, .getfield 321, 3), (14, .ifCond .ne 5, 3), (17, .iconst (-1), 1), (18, .ireturn, 1), (19, .iconst 0, 1), (20, .istore_n 1, 1), (21, .iconst 1, 1), (22, .istore_n 2, 1), (23, .iload_n 2, 1), (24, .aload_n 0, 1), (25, .getfield 56, 3), (28, .getfield 145, 3), (31, .if_icmp .ge 32, 3), (34, .aload_n 0, 1), (35, .getfield 101, 3), (38, .getfield 328, 3), (41, .iload_n 2, 1), (42, .iaload, 1), (43, .aload_n 0, 1), (44, .getfield 101, 3), (47, .getfield 328, 3), (50, .iload_n 1, 1), (51, .iaload, 1), (52, .if_icmp .ge 5, 3), (55, .iload_n 2, 1), (56, .istore_n 1, 1), (57, .iinc 2 1, 3), (60, .goto (-37), 3), (63, .iload_n 1, 1), (64, .ireturn, 1)]
set_option maxRecDepth 100000 in
theorem dX11_champion : mj_pd cX11_champion pX11_champion := mj_pdB (by decide +kernel)
theorem fX11_champion : mj_mf mX11_champion := ⟨mj_t5 40 (by decide +kernel) rfl, mj_t1 1 (by decide +kernel) rfl, by decide, by decide, by decide⟩
theorem iX11_champion : Cond.instanceMethod yX11_champion ∈ mj_GW := mj_t5 38 (by decide +kernel) rfl
theorem vX11_champion : Cond.selects (mj_own.getD 11 "") yX11_champion yX11_champion ∈ mj_GW := mj_t5 39 (by decide +kernel) rfl
def mX11_season : mj_m := (11, false, cX11_season, 5, some .int, yX11_season)
def pX11_season : List (Nat × Instr × Nat) := [(0, .aload_n 0, 1), (1, .invokevirtual 204, 3), (4, .ifCond .eq 28, 3), (7, .iload_n 1, 1), (8, .iconst 1, 1), (9, .if_icmp .lt 23, 3), (12, .iload_n 1, 1), (13, .bipush 20, 2), (15, .if_icmp .gt 17, 3), (18, .aload_n 0, 1), (19, .getfield 101, 3), (22, .getfield 321, 3), (25, .iload_n 1, 1), (26, .iadd, 1), (27, .bipush 40, 2), (29, .if_icmp .le 5, 3), (32, .iconst (-1), 1), (33, .ireturn, 1), (34, .aload_n 0, 1), (35, .getfield 80, 3), (38, .lload_n 2, 1), (39, .invokevirtual 235, 3), (42, .iconst 0, 1), (43, .istore 4, 2), (45, .iload 4, 2), (47, .iload_n 1, 1), (48, .if_icmp .ge 71, 3), (51, .aload_n 0, 1), (52, .getfield 59, 3), (55, .aload_n 0, 1), (56, .getfield 52, 3), (59, .invokevirtual 134, 3), (62, .aload_n 0, 1), (63, .getfield 59, 3), (66, .aload_n 0, 1), (67, .getfield 80, 3), (70, .aload_n 0, 1), (71, .getfield 42, 3), (74, .getfield 208, 3), (77, .iconst 0, 1), (78, .iaload, 1), (79, .invokevirtual 331, 3), (82, .aload_n 0, 1), (83, .getfield 73, 3), (86, .aload_n 0, 1), (87, .getfield 42, 3), (90, .aload_n 0, 1), (91, .getfield 59, 3), (94, .invokevirtual 251, 3), (97, .aload_n 0, 1), (98, .getfield 101, 3), (101, .aload_n 0, 1), (102, .getfield 42, 3), (105, .aload_n 0, 1), (106, .getfield 59, 3), (109, .invokevirtual 324, 3), (112, .pop, 1), (113, .iinc 4 1, 3), (116, .goto (-71), 3), (119, .aload_n 0, 1), (120, .getfield 101, 3), (123, .getfield 321, 3), (126, .ireturn, 1)]
set_option maxRecDepth 100000 in
theorem dX11_season : mj_pd cX11_season pX11_season := mj_pdB (by decide +kernel)
theorem fX11_season : mj_mf mX11_season := ⟨mj_t5 44 (by decide +kernel) rfl, mj_t1 1 (by decide +kernel) rfl, by decide, by decide, by decide⟩
theorem iX11_season : Cond.instanceMethod yX11_season ∈ mj_GW := mj_t5 42 (by decide +kernel) rfl
theorem vX11_season : Cond.selects (mj_own.getD 11 "") yX11_season yX11_season ∈ mj_GW := mj_t5 43 (by decide +kernel) rfl
def mX11_flag : mj_m := (11, false, cX11_flag, 4, some .int, yX11_flag)
def pX11_flag : List (Nat × Instr × Nat) := [(0, .aload_n 0, 1), (1, .iload_n 1, 1), (2, .invokevirtual 160, 3), (5, .ifCond .ne 5, 3), (8, .iconst (-1), 1), (9, .ireturn, 1), (10, .aload_n 0, 1), (11, .getfield 59, 3), (14, .aload_n 0, 1), (15, .getfield 56, 3), (18, .invokevirtual 134, 3), (21, .aload_n 0, 1), (22, .getfield 73, 3), (25, .aload_n 0, 1), (26, .getfield 42, 3), (29, .aload_n 0, 1), (30, .getfield 59, 3), (33, .invokevirtual 251, 3), (36, .aload_n 0, 1), (37, .getfield 46, 3), (40, .aload_n 0, 1), (41, .getfield 42, 3), (44, .invokevirtual 129, 3), (47, .aload_n 0, 1), (48, .getfield 46, 3), (51, .getfield 208, 3), (54, .bipush 6, 2), (56, .iconst 0, 1), (57, .iastore, 1), (58, .aload_n 0, 1), (59, .getfield 46, 3), (62, .aload_n 0, 1), (63, .getfield 59, 3), (66, .iload_n 1, 1), (67, .invokevirtual 198, 3), (70, .istore_n 2, 1), (71, .aload_n 0, 1), (72, .getfield 46, 3), (75, .getfield 208, 3), (78, .bipush 6, 2), (80, .iconst 1, 1), (81, .iastore, 1), (82, .aload_n 0, 1), (83, .getfield 46, 3), (86, .aload_n 0, 1), (87, .getfield 59, 3), (90, .iload_n 1, 1), (91, .invokevirtual 198, 3), (94, .istore_n 3, 1), (95, .iload_n 3, 1), (96, .iload_n 2, 1), (97, .if_icmp .ge 7, 3), (100, .iconst 1, 1), (101, .goto 4, 3), (104, .iconst 0, 1), (105, .ireturn, 1)]
set_option maxRecDepth 100000 in
theorem dX11_flag : mj_pd cX11_flag pX11_flag := mj_pdB (by decide +kernel)
theorem fX11_flag : mj_mf mX11_flag := ⟨mj_t5 57 (by decide +kernel) rfl, mj_t1 1 (by decide +kernel) rfl, by decide, by decide, by decide⟩
theorem iX11_flag : Cond.instanceMethod yX11_flag ∈ mj_GW := mj_t5 55 (by decide +kernel) rfl
theorem vX11_flag : Cond.selects (mj_own.getD 11 "") yX11_flag yX11_flag ∈ mj_GW := mj_t5 56 (by decide +kernel) rfl
def mX11_image : mj_m := (11, false, cX11_image, 1, some .int, yX11_image)
def pX11_image : List (Nat × Instr × Nat) := [(0, .aload_n 0, 1), (1, .invokevirtual 204, 3), (4, .ifCond .ne 5, 3), (7, .iconst (-1), 1), (8, .ireturn, 1), (9, .aload_n 0, 1), (10, .getfield 65, 3), (13, .aload_n 0, 1), (14, .getfield 56, 3), (17, .invokevirtual 134, 3), (20, .aload_n 0, 1), (21, .iconst 1, 1), (22, .putfield 141, 3), (25, .aload_n 0, 1), (26, .getfield 56, 3), (29, .getfield 232, 3), (32, .ireturn, 1)]
set_option maxRecDepth 100000 in
theorem dX11_image : mj_pd cX11_image pX11_image := mj_pdB (by decide +kernel)
theorem fX11_image : mj_mf mX11_image := ⟨mj_t5 61 (by decide +kernel) rfl, mj_t1 1 (by decide +kernel) rfl, by decide, by decide, by decide⟩
theorem iX11_image : Cond.instanceMethod yX11_image ∈ mj_GW := mj_t5 59 (by decide +kernel) rfl
theorem vX11_image : Cond.selects (mj_own.getD 11 "") yX11_image yX11_image ∈ mj_GW := mj_t5 60 (by decide +kernel) rfl
def mX11_back : mj_m := (11, false, cX11_back, 1, some .int, yX11_back)
def pX11_back : List (Nat × Instr × Nat) := [(0, .aload_n 0, 1), (1, .getfield 141, 3), (4, .ifCond .ne 5, 3), (7, .iconst (-1), 1), (8, .ireturn, 1), (9, .aload_n 0, 1), (10, .getfield 56, 3), (13, .aload_n 0, 1), (14, .getfield 65, 3), (17, .invokevirtual 134, 3), (20, .aload_n 0, 1), (21, .getfield 87, 3), (24, .invokevirtual 137, 3), (27, .aload_n 0, 1), (28, .getfield 56, 3), (31, .getfield 232, 3), (34, .ireturn, 1)]
set_option maxRecDepth 100000 in
theorem dX11_back : mj_pd cX11_back pX11_back := mj_pdB (by decide +kernel)
theorem fX11_back : mj_mf mX11_back := ⟨mj_t5 65 (by decide +kernel) rfl, mj_t1 1 (by decide +kernel) rfl, by decide, by decide, by decide⟩
theorem iX11_back : Cond.instanceMethod yX11_back ∈ mj_GW := mj_t5 63 (by decide +kernel) rfl
theorem vX11_back : Cond.selects (mj_own.getD 11 "") yX11_back yX11_back ∈ mj_GW := mj_t5 64 (by decide +kernel) rfl
def mX11_count : mj_m := (11, false, cX11_count, 2, some .int, yX11_count)
def pX11_count : List (Nat × Instr × Nat) := [(0, .iload_n 1, 1), (1, .tableswitch 108 0 7 #[47, 55, 63, 71, 79, 84, 92, 100], 47), (48, .aload_n 0, 1), (49, .getfield 56, 3), (52, .getfield 145, 3), (55, .ireturn, 1), (56, .aload_n 0, 1), (57, .getfield 19, 3), (60, .getfield 148, 3), (63, .ireturn, 1), (64, .aload_n 0, 1), (65, .getfield 10, 3), (68, .getfield 109, 3), (71, .ireturn, 1), (72, .aload_n 0, 1), (73, .getfield 56, 3), (76, .getfield 232, 3), (79, .ireturn, 1), (80, .aload_n 0, 1), (81, .getfield 222, 3), (84, .ireturn, 1), (85, .aload_n 0, 1), (86, .getfield 101, 3), (89, .getfield 335, 3), (92, .ireturn, 1), (93, .aload_n 0, 1), (94, .getfield 101, 3), (97, .getfield 321, 3), (100, .ireturn, 1), (101, .aload_n 0, 1), (102, .getfield 87, 3), (105, .getfield 214, 3), (108, .ireturn, 1), (109, .ldc 250, 2), (111, .ireturn, 1)]
set_option maxRecDepth 100000 in
theorem dX11_count : mj_pd cX11_count pX11_count := mj_pdB (by decide +kernel)
theorem fX11_count : mj_mf mX11_count := ⟨mj_t5 69 (by decide +kernel) rfl, mj_t1 1 (by decide +kernel) rfl, by decide, by decide, by decide⟩
theorem iX11_count : Cond.instanceMethod yX11_count ∈ mj_GW := mj_t5 67 (by decide +kernel) rfl
theorem vX11_count : Cond.selects (mj_own.getD 11 "") yX11_count yX11_count ∈ mj_GW := mj_t5 68 (by decide +kernel) rfl
def mX11_hasWater : mj_m := (11, false, cX11_hasWater, 1, some .boolean, yX11_hasWater)
def pX11_hasWater : List (Nat × Instr × Nat) := [(0, .aload_n 0, 1), (1, .getfield 56, 3), (4, .getfield 145, 3), (7, .ifCond .le 7, 3), (10, .iconst 1, 1), (11, .goto 4, 3), (14, .iconst 0, 1), (15, .ireturn, 1)]
set_option maxRecDepth 100000 in
theorem dX11_hasWater : mj_pd cX11_hasWater pX11_hasWater := mj_pdB (by decide +kernel)
theorem fX11_hasWater : mj_mf mX11_hasWater := ⟨mj_t3 150 (by decide +kernel) rfl, mj_t1 1 (by decide +kernel) rfl, by decide, by decide, by decide⟩
theorem iX11_hasWater : Cond.instanceMethod yX11_hasWater ∈ mj_GW := mj_t3 149 (by decide +kernel) rfl
theorem vX11_hasWater : Cond.selects (mj_own.getD 11 "") yX11_hasWater yX11_hasWater ∈ mj_GW := mj_p2 0 (by decide +kernel) rfl
def mX11_isBoat : mj_m := (11, false, cX11_isBoat, 2, some .boolean, yX11_isBoat)
def pX11_isBoat : List (Nat × Instr × Nat) := [(0, .iload_n 1, 1), (1, .ifCond .lt 18, 3), (4, .iload_n 1, 1), (5, .aload_n 0, 1), (6, .getfield 56, 3), (9, .getfield 145, 3), (12, .if_icmp .ge 7, 3), (15, .iconst 1, 1), (16, .goto 4, 3), (19, .iconst 0, 1), (20, .ireturn, 1)]
set_option maxRecDepth 100000 in
theorem dX11_isBoat : mj_pd cX11_isBoat pX11_isBoat := mj_pdB (by decide +kernel)
theorem fX11_isBoat : mj_mf mX11_isBoat := ⟨mj_t3 158 (by decide +kernel) rfl, mj_t1 1 (by decide +kernel) rfl, by decide, by decide, by decide⟩
theorem iX11_isBoat : Cond.instanceMethod yX11_isBoat ∈ mj_GW := mj_t3 157 (by decide +kernel) rfl
theorem vX11_isBoat : Cond.selects (mj_own.getD 11 "") yX11_isBoat yX11_isBoat ∈ mj_GW := mj_p2 1 (by decide +kernel) rfl
def mX11_isChoice : mj_m := (11, false, cX11_isChoice, 1, some .boolean, yX11_isChoice)
def pX11_isChoice : List (Nat × Instr × Nat) := [(0, .iload_n 0, 1), (1, .ifCond .eq 8, 3), (4, .iload_n 0, 1), (5, .iconst 1, 1), (6, .if_icmp .ne 7, 3), (9, .iconst 1, 1), (10, .goto 4, 3), (13, .iconst 0, 1), (14, .ireturn, 1)]
set_option maxRecDepth 100000 in
theorem dX11_isChoice : mj_pd cX11_isChoice pX11_isChoice := mj_pdB (by decide +kernel)
theorem fX11_isChoice : mj_mf mX11_isChoice := ⟨mj_t4 111 (by decide +kernel) rfl, mj_t1 1 (by decide +kernel) rfl, by decide, by decide, by decide⟩
theorem sX11_isChoice : Cond.static yX11_isChoice ∈ mj_GW := mj_t4 110 (by decide +kernel) rfl
def mX12_in : mj_m := (12, false, cX12_in, 3, some .boolean, yX12_in)
def pX12_in : List (Nat × Instr × Nat) := [(0, .iload_n 0, 1), (1, .iload_n 1, 1), (2, .if_icmp .lt 12, 3), (5, .iload_n 0, 1), (6, .iload_n 2, 1), (7, .if_icmp .gt 7, 3), (10, .iconst 1, 1), (11, .goto 4, 3), (14, .iconst 0, 1), (15, .ireturn, 1)]
set_option maxRecDepth 100000 in
theorem dX12_in : mj_pd cX12_in pX12_in := mj_pdB (by decide +kernel)
theorem fX12_in : mj_mf mX12_in := ⟨mj_t6 106 (by decide +kernel) rfl, mj_t1 13 (by decide +kernel) rfl, by decide, by decide, by decide⟩
theorem sX12_in : Cond.static yX12_in ∈ mj_GW := mj_t6 105 (by decide +kernel) rfl
def mX12_has : mj_m := (12, false, cX12_has, 2, some .boolean, yX12_has)
def pX12_has : List (Nat × Instr × Nat) := [(0, .iload_n 0, 1), (1, .iload_n 1, 1), (2, .ishr, 1), (3, .iconst 1, 1), (4, .iand, 1), (5, .iconst 1, 1), (6, .if_icmp .ne 7, 3), (9, .iconst 1, 1), (10, .goto 4, 3), (13, .iconst 0, 1), (14, .ireturn, 1)]
set_option maxRecDepth 100000 in
theorem dX12_has : mj_pd cX12_has pX12_has := mj_pdB (by decide +kernel)
theorem fX12_has : mj_mf mX12_has := ⟨mj_t6 86 (by decide +kernel) rfl, mj_t1 13 (by decide +kernel) rfl, by decide, by decide, by decide⟩
theorem sX12_has : Cond.static yX12_has ∈ mj_GW := mj_t6 85 (by decide +kernel) rfl
def mX12_thrown : mj_m := (12, false, cX12_thrown, 1, some .int, yX12_thrown)
def pX12_thrown : List (Nat × Instr × Nat) := [(0, .aload_n 0, 1), (1, .getfield 99, 3), (4, .ireturn, 1)]
set_option maxRecDepth 100000 in
theorem dX12_thrown : mj_pd cX12_thrown pX12_thrown := mj_pdB (by decide +kernel)
theorem fX12_thrown : mj_mf mX12_thrown := ⟨mj_t6 46 (by decide +kernel) rfl, mj_t1 13 (by decide +kernel) rfl, by decide, by decide, by decide⟩
theorem iX12_thrown : Cond.instanceMethod yX12_thrown ∈ mj_GW := mj_t6 44 (by decide +kernel) rfl
theorem vX12_thrown : Cond.selects (mj_own.getD 12 "") yX12_thrown yX12_thrown ∈ mj_GW := mj_t6 45 (by decide +kernel) rfl
def mX12_byteOf : mj_m := (12, false, cX12_byteOf, 7, some .int, yX12_byteOf)
def pX12_byteOf : List (Nat × Instr × Nat) := [(0, .iload 5, 2), (2, .iconst 4, 1), (3, .if_icmp .ge 7, 3), (6, .iload_n 0, 1), (7, .goto 38, 3), (10, .iload 5, 2), (12, .bipush 8, 2), (14, .if_icmp .ge 7, 3), (17, .iload_n 1, 1), (18, .goto 27, 3), (21, .iload 5, 2), (23, .bipush 12, 2), (25, .if_icmp .ge 7, 3), (28, .iload_n 2, 1), (29, .goto 16, 3), (32, .iload 5, 2), (34, .bipush 16, 2), (36, .if_icmp .ge 7, 3), (39, .iload_n 3, 1), (40, .goto 5, 3), (43, .iload 4, 2), (45, .istore 6, 2), (47, .iload 6, 2), (49, .bipush 24, 2), (51, .bipush 8, 2), (53, .iload 5, 2), (55, .iconst 4, 1), (56, .irem, 1), (57, .imul, 1), (58, .isub, 1), (59, .ishr, 1), (60, .sipush 255, 3), (63, .iand, 1), (64, .ireturn, 1)]
set_option maxRecDepth 100000 in
theorem dX12_byteOf : mj_pd cX12_byteOf pX12_byteOf := mj_pdB (by decide +kernel)
theorem fX12_byteOf : mj_mf mX12_byteOf := ⟨mj_t6 53 (by decide +kernel) rfl, mj_t1 13 (by decide +kernel) rfl, by decide, by decide, by decide⟩
theorem sX12_byteOf : Cond.static yX12_byteOf ∈ mj_GW := mj_t6 52 (by decide +kernel) rfl
def mX12_feed : mj_m := (12, false, cX12_feed, 9, some .int, yX12_feed)
def pX12_feed : List (Nat × Instr × Nat) := [(0, .iconst 0, 1), (1, .istore 6, 2), (3, .iconst 0, 1), (4, .istore 7, 2), (6, .iload 7, 2), (8, .bipush 20, 2), (10, .if_icmp .ge 34, 3), (13, .iload 6, 2), (15, .iload_n 1, 1), (16, .iload_n 2, 1), (17, .iload_n 3, 1), (18, .iload 4, 2), (20, .iload 5, 2), (22, .iload 7, 2), (24, .invokestatic 102, 3), (27, .ifCond .eq 7, 3), (30, .iconst 1, 1), (31, .goto 4, 3), (34, .iconst 0, 1), (35, .iadd, 1), (36, .istore 6, 2), (38, .iinc 7 1, 3), (41, .goto (-35), 3), (44, .aload_n 0, 1), (45, .getfield 106, 3), (48, .iload 6, 2), (50, .iadd, 1), (51, .sipush 240, 3), (54, .if_icmp .le 5, 3), (57, .iconst (-1), 1), (58, .ireturn, 1), (59, .iconst 0, 1), (60, .istore 7, 2), (62, .iload 7, 2), (64, .bipush 20, 2), (66, .if_icmp .ge 49, 3), (69, .iload_n 1, 1), (70, .iload_n 2, 1), (71, .iload_n 3, 1), (72, .iload 4, 2), (74, .iload 5, 2), (76, .iload 7, 2), (78, .invokestatic 102, 3), (81, .istore 8, 2), (83, .iload 8, 2), (85, .ifCond .eq 24, 3), (88, .aload_n 0, 1), (89, .getfield 9, 3), (92, .aload_n 0, 1), (93, .getfield 106, 3), (96, .iload 8, 2), (98, .iastore, 1), (99, .aload_n 0, 1), (100, .dup, 1), (101, .getfield 106, 3), (104, .iconst 1, 1), (105, .iadd, 1), (106, .putfield 106, 3), (109, .iinc 7 1, 3), (112, .goto (-50), 3), (115, .aload_n 0, 1), (116, .getfield 106, 3), (119, .ireturn, 1)]
set_option maxRecDepth 100000 in
theorem dX12_feed : mj_pd cX12_feed pX12_feed := mj_pdB (by decide +kernel)
theorem fX12_feed : mj_mf mX12_feed := ⟨mj_t6 50 (by decide +kernel) rfl, mj_t1 13 (by decide +kernel) rfl, by decide, by decide, by decide⟩
theorem iX12_feed : Cond.instanceMethod yX12_feed ∈ mj_GW := mj_t6 48 (by decide +kernel) rfl
theorem vX12_feed : Cond.selects (mj_own.getD 12 "") yX12_feed yX12_feed ∈ mj_GW := mj_t6 49 (by decide +kernel) rfl
def mX12_end : mj_m := (12, false, cX12_end, 2, some .boolean, yX12_end)
def pX12_end : List (Nat × Instr × Nat) := [(0, .iload_n 1, 1), (1, .ifCond .lt 11, 3), (4, .iload_n 1, 1), (5, .aload_n 0, 1), (6, .getfield 106, 3), (9, .if_icmp .le 5, 3), (12, .iconst 0, 1), (13, .ireturn, 1), (14, .aload_n 0, 1), (15, .iload_n 1, 1), (16, .putfield 106, 3), (19, .iconst 1, 1), (20, .ireturn, 1)]
set_option maxRecDepth 100000 in
theorem dX12_end : mj_pd cX12_end pX12_end := mj_pdB (by decide +kernel)
theorem fX12_end : mj_mf mX12_end := ⟨mj_t6 57 (by decide +kernel) rfl, mj_t1 13 (by decide +kernel) rfl, by decide, by decide, by decide⟩
theorem iX12_end : Cond.instanceMethod yX12_end ∈ mj_GW := mj_t6 55 (by decide +kernel) rfl
theorem vX12_end : Cond.selects (mj_own.getD 12 "") yX12_end yX12_end ∈ mj_GW := mj_t6 56 (by decide +kernel) rfl
def mX12_here : mj_m := (12, false, cX12_here, 1, some .int, yX12_here)
def pX12_here : List (Nat × Instr × Nat) := [(0, .aload_n 0, 1), (1, .getfield 109, 3), (4, .aload_n 0, 1), (5, .getfield 106, 3), (8, .if_icmp .ge 15, 3), (11, .aload_n 0, 1), (12, .getfield 9, 3), (15, .aload_n 0, 1), (16, .getfield 109, 3), (19, .iaload, 1), (20, .goto 4, 3), (23, .iconst (-1), 1), (24, .ireturn, 1)]
set_option maxRecDepth 100000 in
theorem dX12_here : mj_pd cX12_here pX12_here := mj_pdB (by decide +kernel)
theorem fX12_here : mj_mf mX12_here := ⟨mj_t6 73 (by decide +kernel) rfl, mj_t1 13 (by decide +kernel) rfl, by decide, by decide, by decide⟩
theorem iX12_here : Cond.instanceMethod yX12_here ∈ mj_GW := mj_t6 72 (by decide +kernel) rfl
theorem vX12_here : Cond.selects (mj_own.getD 12 "") yX12_here yX12_here ∈ mj_GW := mj_p3 6 (by decide +kernel) rfl
def mX12_look : mj_m := (12, false, cX12_look, 1, some .int, yX12_look)
def pX12_look : List (Nat × Instr × Nat) := [(0, .aload_n 0, 1), (1, .invokevirtual 112, 3), (4, .bipush 32, 2), (6, .if_icmp .ne 16, 3), (9, .aload_n 0, 1), (10, .dup, 1), (11, .getfield 109, 3), (14, .iconst 1, 1), (15, .iadd, 1), (16, .putfield 109, 3), (19, .goto (-19), 3), (22, .aload_n 0, 1), (23, .invokevirtual 112, 3), (26, .ireturn, 1)]
set_option maxRecDepth 100000 in
theorem dX12_look : mj_pd cX12_look pX12_look := mj_pdB (by decide +kernel)
theorem fX12_look : mj_mf mX12_look := ⟨mj_t6 69 (by decide +kernel) rfl, mj_t1 13 (by decide +kernel) rfl, by decide, by decide, by decide⟩
theorem iX12_look : Cond.instanceMethod yX12_look ∈ mj_GW := mj_t6 68 (by decide +kernel) rfl
theorem vX12_look : Cond.selects (mj_own.getD 12 "") yX12_look yX12_look ∈ mj_GW := mj_p3 5 (by decide +kernel) rfl
def mX12_bad : mj_m := (12, false, cX12_bad, 1, none, yX12_bad)
def pX12_bad : List (Nat × Instr × Nat) := [(0, .aload_n 0, 1), (1, .aload_n 0, 1), (2, .getfield 116, 3), (5, .iconst (-1), 1), (6, .if_icmp .ne 10, 3), (9, .aload_n 0, 1), (10, .getfield 109, 3), (13, .goto 7, 3), (16, .aload_n 0, 1), (17, .getfield 116, 3), (20, .putfield 116, 3), (23, .return_, 1)]
set_option maxRecDepth 100000 in
theorem dX12_bad : mj_pd cX12_bad pX12_bad := mj_pdB (by decide +kernel)
theorem fX12_bad : mj_mf mX12_bad := ⟨mj_t6 103 (by decide +kernel) rfl, mj_t1 13 (by decide +kernel) rfl, by decide, by decide, by decide⟩
theorem iX12_bad : Cond.instanceMethod yX12_bad ∈ mj_GW := mj_t6 102 (by decide +kernel) rfl
theorem vX12_bad : Cond.selects (mj_own.getD 12 "") yX12_bad yX12_bad ∈ mj_GW := mj_p3 9 (by decide +kernel) rfl
def mX12_isDigit : mj_m := (12, false, cX12_isDigit, 1, some .boolean, yX12_isDigit)
def pX12_isDigit : List (Nat × Instr × Nat) := [(0, .iload_n 0, 1), (1, .bipush 48, 2), (3, .if_icmp .lt 13, 3), (6, .iload_n 0, 1), (7, .bipush 57, 2), (9, .if_icmp .gt 7, 3), (12, .iconst 1, 1), (13, .goto 4, 3), (16, .iconst 0, 1), (17, .ireturn, 1)]
set_option maxRecDepth 100000 in
theorem dX12_isDigit : mj_pd cX12_isDigit pX12_isDigit := mj_pdB (by decide +kernel)
theorem fX12_isDigit : mj_mf mX12_isDigit := ⟨mj_t6 99 (by decide +kernel) rfl, mj_t1 13 (by decide +kernel) rfl, by decide, by decide, by decide⟩
theorem sX12_isDigit : Cond.static yX12_isDigit ∈ mj_GW := mj_t6 98 (by decide +kernel) rfl
def mX12_put : mj_m := (12, false, cX12_put, 3, none, yX12_put)
def pX12_put : List (Nat × Instr × Nat) := [(0, .aload_n 0, 1), (1, .getfield 13, 3), (4, .sipush 520, 3), (7, .aload_n 0, 1), (8, .getfield 119, 3), (11, .imul, 1), (12, .aload_n 0, 1), (13, .getfield 19, 3), (16, .aload_n 0, 1), (17, .getfield 119, 3), (20, .iaload, 1), (21, .iadd, 1), (22, .iload_n 1, 1), (23, .iastore, 1), (24, .aload_n 0, 1), (25, .getfield 16, 3), (28, .sipush 520, 3), (31, .aload_n 0, 1), (32, .getfield 119, 3), (35, .imul, 1), (36, .aload_n 0, 1), (37, .getfield 19, 3), (40, .aload_n 0, 1), (41, .getfield 119, 3), (44, .iaload, 1), (45, .iadd, 1), (46, .iload_n 2, 1), (47, .iastore, 1), (48, .aload_n 0, 1), (49, .getfield 19, 3), (52, .aload_n 0, 1), (53, .getfield 119, 3), (56, .dup2, 1), (57, .iaload, 1), (58, .iconst 1, 1), (59, .iadd, 1), (60, .iastore, 1), (61, .return_, 1)]
set_option maxRecDepth 100000 in
theorem dX12_put : mj_pd cX12_put pX12_put := mj_pdB (by decide +kernel)
theorem fX12_put : mj_mf mX12_put := ⟨mj_t6 138 (by decide +kernel) rfl, mj_t1 13 (by decide +kernel) rfl, by decide, by decide, by decide⟩
theorem iX12_put : Cond.instanceMethod yX12_put ∈ mj_GW := mj_t6 137 (by decide +kernel) rfl
theorem vX12_put : Cond.selects (mj_own.getD 12 "") yX12_put yX12_put ∈ mj_GW := mj_p4 1 (by decide +kernel) rfl
def mX12_letterOf : mj_m := (12, false, cX12_letterOf, 1, some .int, yX12_letterOf)
def pX12_letterOf : List (Nat × Instr × Nat) := [(0, .iload_n 0, 1), (1, .bipush 98, 2), (3, .if_icmp .ne 7, 3), (6, .iconst 0, 1), (7, .goto 65, 3), (10, .iload_n 0, 1), (11, .bipush 116, 2), (13, .if_icmp .ne 7, 3), (16, .iconst 1, 1), (17, .goto 55, 3), (20, .iload_n 0, 1), (21, .bipush 118, 2), (23, .if_icmp .ne 7, 3), (26, .iconst 2, 1), (27, .goto 45, 3), (30, .iload_n 0, 1), (31, .bipush 120, 2), (33, .if_icmp .ne 7, 3), (36, .iconst 3, 1), (37, .goto 35, 3), (40, .iload_n 0, 1), (41, .bipush 99, 2), (43, .if_icmp .ne 7, 3), (46, .iconst 4, 1), (47, .goto 25, 3), (50, .iload_n 0, 1), (51, .bipush 119, 2), (53, .if_icmp .ne 7, 3), (56, .iconst 5, 1), (57, .goto 15, 3), (60, .iload_n 0, 1), (61, .bipush 108, 2), (63, .if_icmp .ne 8, 3), (66, .bipush 6, 2), (68, .goto 4, 3), (71, .iconst (-1), 1), (72, .ireturn, 1)]
set_option maxRecDepth 100000 in
theorem dX12_letterOf : mj_pd cX12_letterOf pX12_letterOf := mj_pdB (by decide +kernel)
theorem fX12_letterOf : mj_mf mX12_letterOf := ⟨mj_t6 161 (by decide +kernel) rfl, mj_t1 13 (by decide +kernel) rfl, by decide, by decide, by decide⟩
theorem sX12_letterOf : Cond.static yX12_letterOf ∈ mj_GW := mj_t6 160 (by decide +kernel) rfl
def mX12_opens : mj_m := (12, false, cX12_opens, 1, none, yX12_opens)
def pX12_opens : List (Nat × Instr × Nat) := [(0, .aload_n 0, 1), (1, .getfield 122, 3), (4, .bipush 6, 2), (6, .if_icmp .ne 7, 3), (9, .aload_n 0, 1), (10, .invokevirtual 125, 3), (13, .aload_n 0, 1), (14, .dup, 1), (15, .getfield 122, 3), (18, .iconst 1, 1), (19, .iadd, 1), (20, .putfield 122, 3), (23, .aload_n 0, 1), (24, .dup, 1), (25, .getfield 109, 3), (28, .iconst 1, 1), (29, .iadd, 1), (30, .putfield 109, 3), (33, .return_, 1)]
set_option maxRecDepth 100000 in
theorem dX12_opens : mj_pd cX12_opens pX12_opens := mj_pdB (by decide +kernel)
theorem fX12_opens : mj_mf mX12_opens := ⟨mj_t6 134 (by decide +kernel) rfl, mj_t1 13 (by decide +kernel) rfl, by decide, by decide, by decide⟩
theorem iX12_opens : Cond.instanceMethod yX12_opens ∈ mj_GW := mj_t6 133 (by decide +kernel) rfl
theorem vX12_opens : Cond.selects (mj_own.getD 12 "") yX12_opens yX12_opens ∈ mj_GW := mj_p4 0 (by decide +kernel) rfl
def mX12_closes : mj_m := (12, false, cX12_closes, 2, none, yX12_closes)
def pX12_closes : List (Nat × Instr × Nat) := [(0, .aload_n 0, 1), (1, .getfield 116, 3), (4, .iconst (-1), 1), (5, .if_icmp .ne 15, 3), (8, .aload_n 0, 1), (9, .invokevirtual 128, 3), (12, .iload_n 1, 1), (13, .if_icmp .eq 7, 3), (16, .aload_n 0, 1), (17, .invokevirtual 125, 3), (20, .aload_n 0, 1), (21, .dup, 1), (22, .getfield 109, 3), (25, .iconst 1, 1), (26, .iadd, 1), (27, .putfield 109, 3), (30, .aload_n 0, 1), (31, .dup, 1), (32, .getfield 122, 3), (35, .iconst 1, 1), (36, .isub, 1), (37, .putfield 122, 3), (40, .return_, 1)]
set_option maxRecDepth 100000 in
theorem dX12_closes : mj_pd cX12_closes pX12_closes := mj_pdB (by decide +kernel)
theorem fX12_closes : mj_mf mX12_closes := ⟨mj_t6 142 (by decide +kernel) rfl, mj_t1 13 (by decide +kernel) rfl, by decide, by decide, by decide⟩
theorem iX12_closes : Cond.instanceMethod yX12_closes ∈ mj_GW := mj_t6 141 (by decide +kernel) rfl
theorem vX12_closes : Cond.selects (mj_own.getD 12 "") yX12_closes yX12_closes ∈ mj_GW := mj_p4 2 (by decide +kernel) rfl
def mX12_plainNumber : mj_m := (12, false, cX12_plainNumber, 3, some .int, yX12_plainNumber)
def pX12_plainNumber : List (Nat × Instr × Nat) := [(0, .iconst 0, 1), (1, .istore_n 1, 1), (2, .iconst 0, 1), (3, .istore_n 2, 1), (4, .iload_n 2, 1), (5, .iconst 4, 1), (6, .if_icmp .ge 42, 3), (9, .aload_n 0, 1), (10, .invokevirtual 112, 3), (13, .invokestatic 131, 3), (16, .ifCond .eq 32, 3), (19, .bipush 10, 2), (21, .iload_n 1, 1), (22, .imul, 1), (23, .aload_n 0, 1), (24, .invokevirtual 112, 3), (27, .iadd, 1), (28, .bipush 48, 2), (30, .isub, 1), (31, .istore_n 1, 1), (32, .aload_n 0, 1), (33, .dup, 1), (34, .getfield 109, 3), (37, .iconst 1, 1), (38, .iadd, 1), (39, .putfield 109, 3), (42, .iinc 2 1, 3), (45, .goto (-41), 3), (48, .aload_n 0, 1), (49, .invokevirtual 112, 3), (52, .invokestatic 131, 3), (55, .ifCond .eq 7, 3), (58, .aload_n 0, 1), (59, .invokevirtual 125, 3), (62, .iload_n 1, 1), (63, .ireturn, 1)]
set_option maxRecDepth 100000 in
theorem dX12_plainNumber : mj_pd cX12_plainNumber pX12_plainNumber := mj_pdB (by decide +kernel)
theorem fX12_plainNumber : mj_mf mX12_plainNumber := ⟨mj_t6 158 (by decide +kernel) rfl, mj_t1 13 (by decide +kernel) rfl, by decide, by decide, by decide⟩
theorem iX12_plainNumber : Cond.instanceMethod yX12_plainNumber ∈ mj_GW := mj_t6 157 (by decide +kernel) rfl
theorem vX12_plainNumber : Cond.selects (mj_own.getD 12 "") yX12_plainNumber yX12_plainNumber ∈ mj_GW := mj_p4 6 (by decide +kernel) rfl
def mX12_atom : mj_m := (12, false, cX12_atom, 2, none, yX12_atom)
def pX12_atom : List (Nat × Instr × Nat) := [(0, .aload_n 0, 1), (1, .invokevirtual 128, 3), (4, .istore_n 1, 1), (5, .iload_n 1, 1), (6, .invokestatic 131, 3), (9, .ifCond .eq 15, 3), (12, .aload_n 0, 1), (13, .iconst 0, 1), (14, .aload_n 0, 1), (15, .invokevirtual 135, 3), (18, .invokevirtual 138, 3), (21, .goto 68, 3), (24, .iload_n 1, 1), (25, .invokestatic 142, 3), (28, .iconst (-1), 1), (29, .if_icmp .eq 25, 3), (32, .aload_n 0, 1), (33, .dup, 1), (34, .getfield 109, 3), (37, .iconst 1, 1), (38, .iadd, 1), (39, .putfield 109, 3), (42, .aload_n 0, 1), (43, .iconst 1, 1), (44, .iload_n 1, 1), (45, .invokestatic 142, 3), (48, .invokevirtual 138, 3), (51, .goto 38, 3), (54, .iload_n 1, 1), (55, .bipush 91, 2), (57, .if_icmp .ne 28, 3), (60, .aload_n 0, 1), (61, .invokevirtual 146, 3), (64, .aload_n 0, 1), (65, .getfield 116, 3), (68, .iconst (-1), 1), (69, .if_icmp .ne 20, 3), (72, .aload_n 0, 1), (73, .invokevirtual 149, 3), (76, .aload_n 0, 1), (77, .bipush 93, 2), (79, .invokevirtual 152, 3), (82, .goto 7, 3), (85, .aload_n 0, 1), (86, .invokevirtual 125, 3), (89, .return_, 1)]
set_option maxRecDepth 100000 in
theorem dX12_atom : mj_pd cX12_atom pX12_atom := mj_pdB (by decide +kernel)
theorem fX12_atom : mj_mf mX12_atom := ⟨mj_t6 154 (by decide +kernel) rfl, mj_t1 13 (by decide +kernel) rfl, by decide, by decide, by decide⟩
theorem iX12_atom : Cond.instanceMethod yX12_atom ∈ mj_GW := mj_t6 153 (by decide +kernel) rfl
theorem vX12_atom : Cond.selects (mj_own.getD 12 "") yX12_atom yX12_atom ∈ mj_GW := mj_p4 5 (by decide +kernel) rfl
def mX12_term : mj_m := (12, false, cX12_term, 2, none, yX12_term)
def pX12_term : List (Nat × Instr × Nat) := [(0, .aload_n 0, 1), (1, .invokevirtual 156, 3), (4, .aload_n 0, 1), (5, .getfield 116, 3), (8, .iconst (-1), 1), (9, .if_icmp .ne 10, 3), (12, .aload_n 0, 1), (13, .invokevirtual 128, 3), (16, .goto 4, 3), (19, .iconst (-1), 1), (20, .istore_n 1, 1), (21, .iload_n 1, 1), (22, .bipush 42, 2), (24, .if_icmp .eq 9, 3), (27, .iload_n 1, 1), (28, .bipush 47, 2), (30, .if_icmp .ne 53, 3), (33, .aload_n 0, 1), (34, .dup, 1), (35, .getfield 109, 3), (38, .iconst 1, 1), (39, .iadd, 1), (40, .putfield 109, 3), (43, .aload_n 0, 1), (44, .invokevirtual 156, 3), (47, .aload_n 0, 1), (48, .iload_n 1, 1), (49, .bipush 42, 2), (51, .if_icmp .ne 7, 3), (54, .iconst 4, 1), (55, .goto 4, 3), (58, .iconst 5, 1), (59, .iconst 0, 1), (60, .invokevirtual 138, 3), (63, .aload_n 0, 1), (64, .getfield 116, 3), (67, .iconst (-1), 1), (68, .if_icmp .ne 10, 3), (71, .aload_n 0, 1), (72, .invokevirtual 128, 3), (75, .goto 4, 3), (78, .iconst (-1), 1), (79, .istore_n 1, 1), (80, .goto (-59), 3), (83, .return_, 1)]
set_option maxRecDepth 100000 in
theorem dX12_term : mj_pd cX12_term pX12_term := mj_pdB (by decide +kernel)
theorem fX12_term : mj_mf mX12_term := ⟨mj_t6 150 (by decide +kernel) rfl, mj_t1 13 (by decide +kernel) rfl, by decide, by decide, by decide⟩
theorem iX12_term : Cond.instanceMethod yX12_term ∈ mj_GW := mj_t6 149 (by decide +kernel) rfl
theorem vX12_term : Cond.selects (mj_own.getD 12 "") yX12_term yX12_term ∈ mj_GW := mj_p4 4 (by decide +kernel) rfl
def mX12_sum : mj_m := (12, false, cX12_sum, 2, none, yX12_sum)
def pX12_sum : List (Nat × Instr × Nat) := [(0, .aload_n 0, 1), (1, .invokevirtual 159, 3), (4, .aload_n 0, 1), (5, .getfield 116, 3), (8, .iconst (-1), 1), (9, .if_icmp .ne 10, 3), (12, .aload_n 0, 1), (13, .invokevirtual 128, 3), (16, .goto 4, 3), (19, .iconst (-1), 1), (20, .istore_n 1, 1), (21, .iload_n 1, 1), (22, .bipush 43, 2), (24, .if_icmp .eq 9, 3), (27, .iload_n 1, 1), (28, .bipush 45, 2), (30, .if_icmp .ne 53, 3), (33, .aload_n 0, 1), (34, .dup, 1), (35, .getfield 109, 3), (38, .iconst 1, 1), (39, .iadd, 1), (40, .putfield 109, 3), (43, .aload_n 0, 1), (44, .invokevirtual 159, 3), (47, .aload_n 0, 1), (48, .iload_n 1, 1), (49, .bipush 43, 2), (51, .if_icmp .ne 7, 3), (54, .iconst 2, 1), (55, .goto 4, 3), (58, .iconst 3, 1), (59, .iconst 0, 1), (60, .invokevirtual 138, 3), (63, .aload_n 0, 1), (64, .getfield 116, 3), (67, .iconst (-1), 1), (68, .if_icmp .ne 10, 3), (71, .aload_n 0, 1), (72, .invokevirtual 128, 3), (75, .goto 4, 3), (78, .iconst (-1), 1), (79, .istore_n 1, 1), (80, .goto (-59), 3), (83, .return_, 1)]
set_option maxRecDepth 100000 in
theorem dX12_sum : mj_pd cX12_sum pX12_sum := mj_pdB (by decide +kernel)
theorem fX12_sum : mj_mf mX12_sum := ⟨mj_t6 146 (by decide +kernel) rfl, mj_t1 13 (by decide +kernel) rfl, by decide, by decide, by decide⟩
theorem iX12_sum : Cond.instanceMethod yX12_sum ∈ mj_GW := mj_t6 145 (by decide +kernel) rfl
theorem vX12_sum : Cond.selects (mj_own.getD 12 "") yX12_sum yX12_sum ∈ mj_GW := mj_p4 3 (by decide +kernel) rfl
def mX12_isSign : mj_m := (12, false, cX12_isSign, 1, some .boolean, yX12_isSign)
def pX12_isSign : List (Nat × Instr × Nat) := [(0, .iload_n 0, 1), (1, .bipush 61, 2), (3, .if_icmp .eq 15, 3), (6, .iload_n 0, 1), (7, .bipush 60, 2), (9, .if_icmp .eq 9, 3), (12, .iload_n 0, 1), (13, .bipush 62, 2), (15, .if_icmp .ne 7, 3), (18, .iconst 1, 1), (19, .goto 4, 3), (22, .iconst 0, 1), (23, .ireturn, 1)]
set_option maxRecDepth 100000 in
theorem dX12_isSign : mj_pd cX12_isSign pX12_isSign := mj_pdB (by decide +kernel)
theorem fX12_isSign : mj_mf mX12_isSign := ⟨mj_t6 168 (by decide +kernel) rfl, mj_t1 13 (by decide +kernel) rfl, by decide, by decide, by decide⟩
theorem sX12_isSign : Cond.static yX12_isSign ∈ mj_GW := mj_t6 167 (by decide +kernel) rfl
def mX12_compare : mj_m := (12, false, cX12_compare, 2, none, yX12_compare)
def pX12_compare : List (Nat × Instr × Nat) := [(0, .aload_n 0, 1), (1, .getfield 116, 3), (4, .iconst (-1), 1), (5, .if_icmp .ne 10, 3), (8, .aload_n 0, 1), (9, .invokevirtual 128, 3), (12, .goto 4, 3), (15, .iconst (-1), 1), (16, .istore_n 1, 1), (17, .iload_n 1, 1), (18, .invokestatic 162, 3), (21, .ifCond .ne 8, 3), (24, .aload_n 0, 1), (25, .invokevirtual 125, 3), (28, .return_, 1), (29, .aload_n 0, 1), (30, .dup, 1), (31, .getfield 109, 3), (34, .iconst 1, 1), (35, .iadd, 1), (36, .putfield 109, 3), (39, .aload_n 0, 1), (40, .invokevirtual 149, 3), (43, .aload_n 0, 1), (44, .iload_n 1, 1), (45, .bipush 61, 2), (47, .if_icmp .ne 8, 3), (50, .bipush 6, 2), (52, .goto 16, 3), (55, .iload_n 1, 1), (56, .bipush 60, 2), (58, .if_icmp .ne 8, 3), (61, .bipush 7, 2), (63, .goto 5, 3), (66, .bipush 8, 2), (68, .iconst 0, 1), (69, .invokevirtual 138, 3), (72, .return_, 1)]
set_option maxRecDepth 100000 in
theorem dX12_compare : mj_pd cX12_compare pX12_compare := mj_pdB (by decide +kernel)
theorem fX12_compare : mj_mf mX12_compare := ⟨mj_t6 165 (by decide +kernel) rfl, mj_t1 13 (by decide +kernel) rfl, by decide, by decide, by decide⟩
theorem iX12_compare : Cond.instanceMethod yX12_compare ∈ mj_GW := mj_t6 164 (by decide +kernel) rfl
theorem vX12_compare : Cond.selects (mj_own.getD 12 "") yX12_compare yX12_compare ∈ mj_GW := mj_p4 7 (by decide +kernel) rfl
def mX12_unit : mj_m := (12, false, cX12_unit, 2, none, yX12_unit)
def pX12_unit : List (Nat × Instr × Nat) := [(0, .aload_n 0, 1), (1, .invokevirtual 128, 3), (4, .istore_n 1, 1), (5, .iload_n 1, 1), (6, .bipush 33, 2), (8, .if_icmp .ne 39, 3), (11, .aload_n 0, 1), (12, .invokevirtual 146, 3), (15, .aload_n 0, 1), (16, .getfield 116, 3), (19, .iconst (-1), 1), (20, .if_icmp .ne 74, 3), (23, .aload_n 0, 1), (24, .invokevirtual 165, 3), (27, .aload_n 0, 1), (28, .bipush 9, 2), (30, .iconst 0, 1), (31, .invokevirtual 138, 3), (34, .aload_n 0, 1), (35, .dup, 1), (36, .getfield 122, 3), (39, .iconst 1, 1), (40, .isub, 1), (41, .putfield 122, 3), (44, .goto 50, 3), (47, .iload_n 1, 1), (48, .bipush 40, 2), (50, .if_icmp .ne 28, 3), (53, .aload_n 0, 1), (54, .invokevirtual 146, 3), (57, .aload_n 0, 1), (58, .getfield 116, 3), (61, .iconst (-1), 1), (62, .if_icmp .ne 32, 3), (65, .aload_n 0, 1), (66, .invokevirtual 168, 3), (69, .aload_n 0, 1), (70, .bipush 41, 2), (72, .invokevirtual 152, 3), (75, .goto 19, 3), (78, .aload_n 0, 1), (79, .invokevirtual 149, 3), (82, .aload_n 0, 1), (83, .getfield 116, 3), (86, .iconst (-1), 1), (87, .if_icmp .ne 7, 3), (90, .aload_n 0, 1), (91, .invokevirtual 171, 3), (94, .return_, 1)]
set_option maxRecDepth 100000 in
theorem dX12_unit : mj_pd cX12_unit pX12_unit := mj_pdB (by decide +kernel)
theorem fX12_unit : mj_mf mX12_unit := ⟨mj_t6 130 (by decide +kernel) rfl, mj_t1 13 (by decide +kernel) rfl, by decide, by decide, by decide⟩
theorem iX12_unit : Cond.instanceMethod yX12_unit ∈ mj_GW := mj_t6 129 (by decide +kernel) rfl
theorem vX12_unit : Cond.selects (mj_own.getD 12 "") yX12_unit yX12_unit ∈ mj_GW := mj_p3 15 (by decide +kernel) rfl
def mX12_goOnAnd : mj_m := (12, false, cX12_goOnAnd, 1, none, yX12_goOnAnd)
def pX12_goOnAnd : List (Nat × Instr × Nat) := [(0, .aload_n 0, 1), (1, .getfield 116, 3), (4, .iconst (-1), 1), (5, .if_icmp .ne 36, 3), (8, .aload_n 0, 1), (9, .invokevirtual 128, 3), (12, .bipush 38, 2), (14, .if_icmp .ne 27, 3), (17, .aload_n 0, 1), (18, .dup, 1), (19, .getfield 109, 3), (22, .iconst 1, 1), (23, .iadd, 1), (24, .putfield 109, 3), (27, .aload_n 0, 1), (28, .invokevirtual 165, 3), (31, .aload_n 0, 1), (32, .bipush 10, 2), (34, .iconst 0, 1), (35, .invokevirtual 138, 3), (38, .goto (-38), 3), (41, .return_, 1)]
set_option maxRecDepth 100000 in
theorem dX12_goOnAnd : mj_pd cX12_goOnAnd pX12_goOnAnd := mj_pdB (by decide +kernel)
theorem fX12_goOnAnd : mj_mf mX12_goOnAnd := ⟨mj_t6 172 (by decide +kernel) rfl, mj_t1 13 (by decide +kernel) rfl, by decide, by decide, by decide⟩
theorem iX12_goOnAnd : Cond.instanceMethod yX12_goOnAnd ∈ mj_GW := mj_t6 171 (by decide +kernel) rfl
theorem vX12_goOnAnd : Cond.selects (mj_own.getD 12 "") yX12_goOnAnd yX12_goOnAnd ∈ mj_GW := mj_p4 8 (by decide +kernel) rfl
def mX12_goOnOr : mj_m := (12, false, cX12_goOnOr, 1, none, yX12_goOnOr)
def pX12_goOnOr : List (Nat × Instr × Nat) := [(0, .aload_n 0, 1), (1, .getfield 116, 3), (4, .iconst (-1), 1), (5, .if_icmp .ne 40, 3), (8, .aload_n 0, 1), (9, .invokevirtual 128, 3), (12, .bipush 124, 2), (14, .if_icmp .ne 31, 3), (17, .aload_n 0, 1), (18, .dup, 1), (19, .getfield 109, 3), (22, .iconst 1, 1), (23, .iadd, 1), (24, .putfield 109, 3), (27, .aload_n 0, 1), (28, .invokevirtual 165, 3), (31, .aload_n 0, 1), (32, .invokevirtual 174, 3), (35, .aload_n 0, 1), (36, .bipush 11, 2), (38, .iconst 0, 1), (39, .invokevirtual 138, 3), (42, .goto (-42), 3), (45, .return_, 1)]
set_option maxRecDepth 100000 in
theorem dX12_goOnOr : mj_pd cX12_goOnOr pX12_goOnOr := mj_pdB (by decide +kernel)
theorem fX12_goOnOr : mj_mf mX12_goOnOr := ⟨mj_t6 176 (by decide +kernel) rfl, mj_t1 13 (by decide +kernel) rfl, by decide, by decide, by decide⟩
theorem iX12_goOnOr : Cond.instanceMethod yX12_goOnOr ∈ mj_GW := mj_t6 175 (by decide +kernel) rfl
theorem vX12_goOnOr : Cond.selects (mj_own.getD 12 "") yX12_goOnOr yX12_goOnOr ∈ mj_GW := mj_p4 9 (by decide +kernel) rfl
def mX12_condition : mj_m := (12, false, cX12_condition, 1, none, yX12_condition)
def pX12_condition : List (Nat × Instr × Nat) := [(0, .aload_n 0, 1), (1, .invokevirtual 165, 3), (4, .aload_n 0, 1), (5, .invokevirtual 174, 3), (8, .aload_n 0, 1), (9, .invokevirtual 177, 3), (12, .return_, 1)]
set_option maxRecDepth 100000 in
theorem dX12_condition : mj_pd cX12_condition pX12_condition := mj_pdB (by decide +kernel)
theorem fX12_condition : mj_mf mX12_condition := ⟨mj_t6 126 (by decide +kernel) rfl, mj_t1 13 (by decide +kernel) rfl, by decide, by decide, by decide⟩
theorem iX12_condition : Cond.instanceMethod yX12_condition ∈ mj_GW := mj_t6 125 (by decide +kernel) rfl
theorem vX12_condition : Cond.selects (mj_own.getD 12 "") yX12_condition yX12_condition ∈ mj_GW := mj_p3 14 (by decide +kernel) rfl
def mX12_clause : mj_m := (12, false, cX12_clause, 3, none, yX12_clause)
def pX12_clause : List (Nat × Instr × Nat) := [(0, .sipush 140, 3), (3, .aload_n 0, 1), (4, .getfield 119, 3), (7, .imul, 1), (8, .aload_n 0, 1), (9, .getfield 22, 3), (12, .aload_n 0, 1), (13, .getfield 119, 3), (16, .iaload, 1), (17, .iadd, 1), (18, .istore_n 1, 1), (19, .aload_n 0, 1), (20, .getfield 116, 3), (23, .iconst (-1), 1), (24, .if_icmp .ne 16, 3), (27, .aload_n 0, 1), (28, .invokevirtual 128, 3), (31, .bipush 121, 2), (33, .if_icmp .eq 7, 3), (36, .aload_n 0, 1), (37, .invokevirtual 125, 3), (40, .aload_n 0, 1), (41, .dup, 1), (42, .getfield 109, 3), (45, .iconst 1, 1), (46, .iadd, 1), (47, .putfield 109, 3), (50, .aload_n 0, 1), (51, .getfield 116, 3), (54, .iconst (-1), 1), (55, .if_icmp .ne 16, 3), (58, .aload_n 0, 1), (59, .invokevirtual 128, 3), (62, .bipush 58, 2), (64, .if_icmp .eq 7, 3), (67, .aload_n 0, 1), (68, .invokevirtual 125, 3), (71, .aload_n 0, 1), (72, .dup, 1), (73, .getfield 109, 3), (76, .iconst 1, 1), (77, .iadd, 1), (78, .putfield 109, 3), (81, .aload_n 0, 1), (82, .getfield 116, 3), (85, .iconst (-1), 1), (86, .if_icmp .eq 4, 3), (89, .return_, 1), (90, .aload_n 0, 1), (91, .getfield 25, 3), (94, .iload_n 1, 1), (95, .aload_n 0, 1), (96, .getfield 19, 3), (99, .aload_n 0, 1), (100, .getfield 119, 3), (103, .iaload, 1), (104, .iastore, 1), (105, .aload_n 0, 1), (106, .invokevirtual 128, 3), (109, .bipush 33, 2), (111, .if_icmp .eq 12, 3), (114, .aload_n 0, 1), (115, .invokevirtual 128, 3), (118, .bipush 40, 2), (120, .if_icmp .ne 7, 3), (123, .iconst 1, 1), (124, .goto 4, 3), (127, .iconst 0, 1), (128, .istore_n 2, 1), (129, .iload_n 2, 1), (130, .ifCond .eq 10, 3), (133, .aload_n 0, 1), (134, .invokevirtual 168, 3), (137, .goto 47, 3), (140, .aload_n 0, 1), (141, .invokevirtual 149, 3), (144, .aload_n 0, 1), (145, .getfield 116, 3), (148, .iconst (-1), 1), (149, .if_icmp .ne 17, 3), (152, .aload_n 0, 1), (153, .invokevirtual 128, 3), (156, .invokestatic 162, 3), (159, .ifCond .eq 7, 3), (162, .iconst 1, 1), (163, .goto 4, 3), (166, .iconst 0, 1), (167, .istore_n 2, 1), (168, .iload_n 2, 1), (169, .ifCond .eq 15, 3), (172, .aload_n 0, 1), (173, .invokevirtual 171, 3), (176, .aload_n 0, 1), (177, .invokevirtual 174, 3), (180, .aload_n 0, 1), (181, .invokevirtual 177, 3), (184, .aload_n 0, 1), (185, .getfield 28, 3), (188, .iload_n 1, 1), (189, .aload_n 0, 1), (190, .getfield 25, 3), (193, .iload_n 1, 1), (194, .iaload, 1), (195, .iastore, 1), (196, .iload_n 2, 1), (197, .ifCond .eq 54, 3), (200, .aload_n 0, 1), (201, .getfield 116, 3), (204, .iconst (-1), 1), (205, .if_icmp .ne 46, 3), (208, .aload_n 0, 1), (209, .invokevirtual 128, 3), (212, .bipush 63, 2), (214, .if_icmp .eq 8, 3), (217, .aload_n 0, 1), (218, .invokevirtual 125, 3), (221, .return_, 1), (222, .aload_n 0, 1), (223, .dup, 1), (224, .getfield 109, 3), (227, .iconst 1, 1), (228, .iadd, 1), (229, .putfield 109, 3), (232, .aload_n 0, 1), (233, .getfield 28, 3), (236, .iload_n 1, 1), (237, .aload_n 0, 1), (238, .getfield 19, 3), (241, .aload_n 0, 1), (242, .getfield 119, 3), (245, .iaload, 1), (246, .iastore, 1), (247, .aload_n 0, 1), (248, .invokevirtual 149, 3), (251, .aload_n 0, 1), (252, .getfield 31, 3), (255, .iload_n 1, 1), (256, .aload_n 0, 1), (257, .getfield 19, 3), (260, .aload_n 0, 1), (261, .getfield 119, 3), (264, .iaload, 1), (265, .iastore, 1), (266, .aload_n 0, 1), (267, .getfield 22, 3), (270, .aload_n 0, 1), (271, .getfield 119, 3), (274, .dup2, 1), (275, .iaload, 1), (276, .iconst 1, 1), (277, .iadd, 1), (278, .iastore, 1), (279, .return_, 1)]
set_option maxRecDepth 100000 in
theorem dX12_clause : mj_pd cX12_clause pX12_clause := mj_pdB (by decide +kernel)
theorem fX12_clause : mj_mf mX12_clause := ⟨mj_t6 122 (by decide +kernel) rfl, mj_t1 13 (by decide +kernel) rfl, by decide, by decide, by decide⟩
theorem iX12_clause : Cond.instanceMethod yX12_clause ∈ mj_GW := mj_t6 121 (by decide +kernel) rfl
theorem vX12_clause : Cond.selects (mj_own.getD 12 "") yX12_clause yX12_clause ∈ mj_GW := mj_p3 13 (by decide +kernel) rfl
def mX12_open : mj_m := (12, false, cX12_open, 2, none, yX12_open)
def pX12_open : List (Nat × Instr × Nat) := [(0, .aload_n 0, 1), (1, .iload_n 1, 1), (2, .putfield 119, 3), (5, .aload_n 0, 1), (6, .iconst 0, 1), (7, .putfield 109, 3), (10, .aload_n 0, 1), (11, .iconst (-1), 1), (12, .putfield 116, 3), (15, .aload_n 0, 1), (16, .iconst 0, 1), (17, .putfield 122, 3), (20, .aload_n 0, 1), (21, .getfield 19, 3), (24, .iload_n 1, 1), (25, .iconst 0, 1), (26, .iastore, 1), (27, .aload_n 0, 1), (28, .getfield 22, 3), (31, .iload_n 1, 1), (32, .iconst 0, 1), (33, .iastore, 1), (34, .return_, 1)]
set_option maxRecDepth 100000 in
theorem dX12_open : mj_pd cX12_open pX12_open := mj_pdB (by decide +kernel)
theorem fX12_open : mj_mf mX12_open := ⟨mj_t6 118 (by decide +kernel) rfl, mj_t1 13 (by decide +kernel) rfl, by decide, by decide, by decide⟩
theorem iX12_open : Cond.instanceMethod yX12_open ∈ mj_GW := mj_t6 117 (by decide +kernel) rfl
theorem vX12_open : Cond.selects (mj_own.getD 12 "") yX12_open yX12_open ∈ mj_GW := mj_p3 12 (by decide +kernel) rfl
def mX12_atEnd : mj_m := (12, false, cX12_atEnd, 1, some .int, yX12_atEnd)
def pX12_atEnd : List (Nat × Instr × Nat) := [(0, .aload_n 0, 1), (1, .getfield 116, 3), (4, .iconst (-1), 1), (5, .if_icmp .ne 15, 3), (8, .aload_n 0, 1), (9, .invokevirtual 128, 3), (12, .iconst (-1), 1), (13, .if_icmp .eq 7, 3), (16, .aload_n 0, 1), (17, .invokevirtual 125, 3), (20, .aload_n 0, 1), (21, .getfield 116, 3), (24, .ireturn, 1)]
set_option maxRecDepth 100000 in
theorem dX12_atEnd : mj_pd cX12_atEnd pX12_atEnd := mj_pdB (by decide +kernel)
theorem fX12_atEnd : mj_mf mX12_atEnd := ⟨mj_t6 180 (by decide +kernel) rfl, mj_t1 13 (by decide +kernel) rfl, by decide, by decide, by decide⟩
theorem iX12_atEnd : Cond.instanceMethod yX12_atEnd ∈ mj_GW := mj_t6 179 (by decide +kernel) rfl
theorem vX12_atEnd : Cond.selects (mj_own.getD 12 "") yX12_atEnd yX12_atEnd ∈ mj_GW := mj_p4 10 (by decide +kernel) rfl
def mX12_readLaw : mj_m := (12, false, cX12_readLaw, 2, some .int, yX12_readLaw)
def pX12_readLaw : List (Nat × Instr × Nat) := [(0, .aload_n 0, 1), (1, .iload_n 1, 1), (2, .invokevirtual 180, 3), (5, .aload_n 0, 1), (6, .invokevirtual 183, 3), (9, .aload_n 0, 1), (10, .getfield 116, 3), (13, .iconst (-1), 1), (14, .if_icmp .ne 29, 3), (17, .aload_n 0, 1), (18, .invokevirtual 128, 3), (21, .bipush 59, 2), (23, .if_icmp .ne 20, 3), (26, .aload_n 0, 1), (27, .dup, 1), (28, .getfield 109, 3), (31, .iconst 1, 1), (32, .iadd, 1), (33, .putfield 109, 3), (36, .aload_n 0, 1), (37, .invokevirtual 183, 3), (40, .goto (-31), 3), (43, .aload_n 0, 1), (44, .invokevirtual 186, 3), (47, .ireturn, 1)]
set_option maxRecDepth 100000 in
theorem dX12_readLaw : mj_pd cX12_readLaw pX12_readLaw := mj_pdB (by decide +kernel)
theorem fX12_readLaw : mj_mf mX12_readLaw := ⟨mj_t6 114 (by decide +kernel) rfl, mj_t1 13 (by decide +kernel) rfl, by decide, by decide, by decide⟩
theorem iX12_readLaw : Cond.instanceMethod yX12_readLaw ∈ mj_GW := mj_t6 113 (by decide +kernel) rfl
theorem vX12_readLaw : Cond.selects (mj_own.getD 12 "") yX12_readLaw yX12_readLaw ∈ mj_GW := mj_p3 11 (by decide +kernel) rfl
def mX12_bounded : mj_m := (12, false, cX12_bounded, 2, some .int, yX12_bounded)
def pX12_bounded : List (Nat × Instr × Nat) := [(0, .ldc2_w 189, 3), (3, .ldc2_w 191, 3), (6, .lload_n 0, 1), (7, .invokestatic 193, 3), (10, .invokestatic 199, 3), (13, .l2i, 1), (14, .ireturn, 1)]
set_option maxRecDepth 100000 in
theorem dX12_bounded : mj_pd cX12_bounded pX12_bounded := mj_pdB (by decide +kernel)
theorem fX12_bounded : mj_mf mX12_bounded := ⟨mj_t7 78 (by decide +kernel) rfl, mj_t1 13 (by decide +kernel) rfl, by decide, by decide, by decide⟩
theorem sX12_bounded : Cond.static yX12_bounded ∈ mj_GW := mj_t7 77 (by decide +kernel) rfl
def mX12_worked : mj_m := (12, false, cX12_worked, 5, some .int, yX12_worked)
def pX12_worked : List (Nat × Instr × Nat) := [(0, .iload_n 0, 1), (1, .tableswitch 143 2 10 #[51, 58, 65, 72, 89, 101, 113, 143, 125], 51), (52, .lload_n 1, 1), (53, .lload_n 3, 1), (54, .ladd, 1), (55, .invokestatic 202, 3), (58, .ireturn, 1), (59, .lload_n 1, 1), (60, .lload_n 3, 1), (61, .lsub, 1), (62, .invokestatic 202, 3), (65, .ireturn, 1), (66, .lload_n 1, 1), (67, .lload_n 3, 1), (68, .lmul, 1), (69, .invokestatic 202, 3), (72, .ireturn, 1), (73, .lload_n 3, 1), (74, .lconst 0, 1), (75, .lcmp, 1), (76, .ifCond .ne 7, 3), (79, .iconst 0, 1), (80, .goto 9, 3), (83, .lload_n 1, 1), (84, .lload_n 3, 1), (85, .ldiv, 1), (86, .invokestatic 202, 3), (89, .ireturn, 1), (90, .lload_n 1, 1), (91, .lload_n 3, 1), (92, .lcmp, 1), (93, .ifCond .ne 7, 3), (96, .iconst 1, 1), (97, .goto 4, 3), (100, .iconst 0, 1), (101, .ireturn, 1), (102, .lload_n 1, 1), (103, .lload_n 3, 1), (104, .lcmp, 1), (105, .ifCond .ge 7, 3), (108, .iconst 1, 1), (109, .goto 4, 3), (112, .iconst 0, 1), (113, .ireturn, 1), (114, .lload_n 1, 1), (115, .lload_n 3, 1), (116, .lcmp, 1), (117, .ifCond .le 7, 3), (120, .iconst 1, 1), (121, .goto 4, 3), (124, .iconst 0, 1), (125, .ireturn, 1), (126, .lload_n 1, 1), (127, .lconst 0, 1), (128, .lcmp, 1), (129, .ifCond .eq 13, 3), (132, .lload_n 3, 1), (133, .lconst 0, 1), (134, .lcmp, 1), (135, .ifCond .eq 7, 3), (138, .iconst 1, 1), (139, .goto 4, 3), (142, .iconst 0, 1), (143, .ireturn, 1), (144, .lload_n 1, 1), (145, .lconst 0, 1), (146, .lcmp, 1), (147, .ifCond .ne 9, 3), (150, .lload_n 3, 1), (151, .lconst 0, 1), (152, .lcmp, 1), (153, .ifCond .eq 7, 3), (156, .iconst 1, 1), (157, .goto 4, 3), (160, .iconst 0, 1), (161, .ireturn, 1)]
set_option maxRecDepth 100000 in
theorem dX12_worked : mj_pd cX12_worked pX12_worked := mj_pdB (by decide +kernel)
theorem fX12_worked : mj_mf mX12_worked := ⟨mj_t7 75 (by decide +kernel) rfl, mj_t1 13 (by decide +kernel) rfl, by decide, by decide, by decide⟩
theorem sX12_worked : Cond.static yX12_worked ∈ mj_GW := mj_t7 74 (by decide +kernel) rfl
def mX12_workOut : mj_m := (12, false, cX12_workOut, 6, some .int, yX12_workOut)
def pX12_workOut : List (Nat × Instr × Nat) := [(0, .iconst 0, 1), (1, .istore 4, 2), (3, .sipush 520, 3), (6, .iload_n 1, 1), (7, .imul, 1), (8, .iload_n 2, 1), (9, .iadd, 1), (10, .istore 5, 2), (12, .iload 5, 2), (14, .sipush 520, 3), (17, .iload_n 1, 1), (18, .imul, 1), (19, .iload_n 3, 1), (20, .iadd, 1), (21, .if_icmp .ge 150, 3), (24, .aload_n 0, 1), (25, .getfield 13, 3), (28, .iload 5, 2), (30, .iaload, 1), (31, .ifCond .eq 14, 3), (34, .aload_n 0, 1), (35, .getfield 13, 3), (38, .iload 5, 2), (40, .iaload, 1), (41, .iconst 1, 1), (42, .if_icmp .ne 48, 3), (45, .aload_n 0, 1), (46, .getfield 37, 3), (49, .iload 4, 2), (51, .aload_n 0, 1), (52, .getfield 13, 3), (55, .iload 5, 2), (57, .iaload, 1), (58, .ifCond .ne 13, 3), (61, .aload_n 0, 1), (62, .getfield 16, 3), (65, .iload 5, 2), (67, .iaload, 1), (68, .goto 15, 3), (71, .aload_n 0, 1), (72, .getfield 34, 3), (75, .aload_n 0, 1), (76, .getfield 16, 3), (79, .iload 5, 2), (81, .iaload, 1), (82, .iaload, 1), (83, .iastore, 1), (84, .iinc 4 1, 3), (87, .goto 78, 3), (90, .aload_n 0, 1), (91, .getfield 13, 3), (94, .iload 5, 2), (96, .iaload, 1), (97, .bipush 9, 2), (99, .if_icmp .ne 26, 3), (102, .aload_n 0, 1), (103, .getfield 37, 3), (106, .iload 4, 2), (108, .iconst 1, 1), (109, .isub, 1), (110, .iconst 1, 1), (111, .aload_n 0, 1), (112, .getfield 37, 3), (115, .iload 4, 2), (117, .iconst 1, 1), (118, .isub, 1), (119, .iaload, 1), (120, .isub, 1), (121, .iastore, 1), (122, .goto 43, 3), (125, .iinc 4 (-1), 3), (128, .aload_n 0, 1), (129, .getfield 37, 3), (132, .iload 4, 2), (134, .iconst 1, 1), (135, .isub, 1), (136, .aload_n 0, 1), (137, .getfield 13, 3), (140, .iload 5, 2), (142, .iaload, 1), (143, .aload_n 0, 1), (144, .getfield 37, 3), (147, .iload 4, 2), (149, .iconst 1, 1), (150, .isub, 1), (151, .iaload, 1), (152, .i2l, 1), (153, .aload_n 0, 1), (154, .getfield 37, 3), (157, .iload 4, 2), (159, .iaload, 1), (160, .i2l, 1), (161, .invokestatic 206, 3), (164, .iastore, 1), (165, .iinc 5 1, 3), (168, .goto (-156), 3), (171, .aload_n 0, 1), (172, .getfield 37, 3), (175, .iconst 0, 1), (176, .iaload, 1), (177, .ireturn, 1)]
set_option maxRecDepth 100000 in
theorem dX12_workOut : mj_pd cX12_workOut pX12_workOut := mj_pdB (by decide +kernel)
theorem fX12_workOut : mj_mf mX12_workOut := ⟨mj_t7 72 (by decide +kernel) rfl, mj_t1 13 (by decide +kernel) rfl, by decide, by decide, by decide⟩
theorem iX12_workOut : Cond.instanceMethod yX12_workOut ∈ mj_GW := mj_t7 71 (by decide +kernel) rfl
theorem vX12_workOut : Cond.selects (mj_own.getD 12 "") yX12_workOut yX12_workOut ∈ mj_GW := mj_p6 1 (by decide +kernel) rfl
def mX12_worthOf : mj_m := (12, false, cX12_worthOf, 3, some .int, yX12_worthOf)
def pX12_worthOf : List (Nat × Instr × Nat) := [(0, .sipush 140, 3), (3, .iload_n 1, 1), (4, .imul, 1), (5, .istore_n 2, 1), (6, .iload_n 2, 1), (7, .sipush 140, 3), (10, .iload_n 1, 1), (11, .imul, 1), (12, .aload_n 0, 1), (13, .getfield 22, 3), (16, .iload_n 1, 1), (17, .iaload, 1), (18, .iadd, 1), (19, .if_icmp .ge 62, 3), (22, .aload_n 0, 1), (23, .getfield 25, 3), (26, .iload_n 2, 1), (27, .iaload, 1), (28, .aload_n 0, 1), (29, .getfield 28, 3), (32, .iload_n 2, 1), (33, .iaload, 1), (34, .if_icmp .eq 23, 3), (37, .aload_n 0, 1), (38, .iload_n 1, 1), (39, .aload_n 0, 1), (40, .getfield 25, 3), (43, .iload_n 2, 1), (44, .iaload, 1), (45, .aload_n 0, 1), (46, .getfield 28, 3), (49, .iload_n 2, 1), (50, .iaload, 1), (51, .invokevirtual 210, 3), (54, .ifCond .eq 21, 3), (57, .aload_n 0, 1), (58, .iload_n 1, 1), (59, .aload_n 0, 1), (60, .getfield 28, 3), (63, .iload_n 2, 1), (64, .iaload, 1), (65, .aload_n 0, 1), (66, .getfield 31, 3), (69, .iload_n 2, 1), (70, .iaload, 1), (71, .invokevirtual 210, 3), (74, .ireturn, 1), (75, .iinc 2 1, 3), (78, .goto (-72), 3), (81, .iconst 0, 1), (82, .ireturn, 1)]
set_option maxRecDepth 100000 in
theorem dX12_worthOf : mj_pd cX12_worthOf pX12_worthOf := mj_pdB (by decide +kernel)
theorem fX12_worthOf : mj_mf mX12_worthOf := ⟨mj_t7 68 (by decide +kernel) rfl, mj_t1 13 (by decide +kernel) rfl, by decide, by decide, by decide⟩
theorem iX12_worthOf : Cond.instanceMethod yX12_worthOf ∈ mj_GW := mj_t7 67 (by decide +kernel) rfl
theorem vX12_worthOf : Cond.selects (mj_own.getD 12 "") yX12_worthOf yX12_worthOf ∈ mj_GW := mj_p6 0 (by decide +kernel) rfl
def mX12_number : mj_m := (12, false, cX12_number, 4, some .int, yX12_number)
def pX12_number : List (Nat × Instr × Nat) := [(0, .aload_n 0, 1), (1, .invokevirtual 128, 3), (4, .invokestatic 131, 3), (7, .ifCond .ne 9, 3), (10, .aload_n 0, 1), (11, .invokevirtual 125, 3), (14, .iload_n 1, 1), (15, .ireturn, 1), (16, .aload_n 0, 1), (17, .invokevirtual 112, 3), (20, .bipush 48, 2), (22, .isub, 1), (23, .istore_n 3, 1), (24, .aload_n 0, 1), (25, .dup, 1), (26, .getfield 109, 3), (29, .iconst 1, 1), (30, .iadd, 1), (31, .putfield 109, 3), (34, .aload_n 0, 1), (35, .invokevirtual 112, 3), (38, .invokestatic 131, 3), (41, .ifCond .eq 26, 3), (44, .bipush 10, 2), (46, .iload_n 3, 1), (47, .imul, 1), (48, .aload_n 0, 1), (49, .invokevirtual 112, 3), (52, .iadd, 1), (53, .bipush 48, 2), (55, .isub, 1), (56, .istore_n 3, 1), (57, .aload_n 0, 1), (58, .dup, 1), (59, .getfield 109, 3), (62, .iconst 1, 1), (63, .iadd, 1), (64, .putfield 109, 3), (67, .aload_n 0, 1), (68, .invokevirtual 112, 3), (71, .invokestatic 131, 3), (74, .ifCond .eq 10, 3), (77, .aload_n 0, 1), (78, .invokevirtual 125, 3), (81, .goto 26, 3), (84, .iload_n 3, 1), (85, .iload_n 1, 1), (86, .iload_n 2, 1), (87, .invokestatic 214, 3), (90, .ifCond .ne 17, 3), (93, .aload_n 0, 1), (94, .dup, 1), (95, .getfield 109, 3), (98, .iconst 1, 1), (99, .isub, 1), (100, .putfield 109, 3), (103, .aload_n 0, 1), (104, .invokevirtual 125, 3), (107, .iload_n 3, 1), (108, .ireturn, 1)]
set_option maxRecDepth 100000 in
theorem dX12_number : mj_pd cX12_number pX12_number := mj_pdB (by decide +kernel)
theorem fX12_number : mj_mf mX12_number := ⟨mj_t6 96 (by decide +kernel) rfl, mj_t1 13 (by decide +kernel) rfl, by decide, by decide, by decide⟩
theorem iX12_number : Cond.instanceMethod yX12_number ∈ mj_GW := mj_t6 95 (by decide +kernel) rfl
theorem vX12_number : Cond.selects (mj_own.getD 12 "") yX12_number yX12_number ∈ mj_GW := mj_p3 8 (by decide +kernel) rfl
def mX12_itemOf : mj_m := (12, false, cX12_itemOf, 2, some .int, yX12_itemOf)
def pX12_itemOf : List (Nat × Instr × Nat) := [(0, .iload_n 0, 1), (1, .bipush 108, 2), (3, .if_icmp .ne 76, 3), (6, .iload_n 1, 1), (7, .bipush 119, 2), (9, .if_icmp .ne 7, 3), (12, .iconst 0, 1), (13, .goto 65, 3), (16, .iload_n 1, 1), (17, .bipush 97, 2), (19, .if_icmp .ne 7, 3), (22, .iconst 1, 1), (23, .goto 55, 3), (26, .iload_n 1, 1), (27, .bipush 101, 2), (29, .if_icmp .ne 7, 3), (32, .iconst 2, 1), (33, .goto 45, 3), (36, .iload_n 1, 1), (37, .bipush 117, 2), (39, .if_icmp .ne 7, 3), (42, .iconst 3, 1), (43, .goto 35, 3), (46, .iload_n 1, 1), (47, .bipush 100, 2), (49, .if_icmp .ne 7, 3), (52, .iconst 4, 1), (53, .goto 25, 3), (56, .iload_n 1, 1), (57, .bipush 115, 2), (59, .if_icmp .ne 7, 3), (62, .iconst 5, 1), (63, .goto 15, 3), (66, .iload_n 1, 1), (67, .bipush 102, 2), (69, .if_icmp .ne 8, 3), (72, .bipush 6, 2), (74, .goto 4, 3), (77, .iconst (-1), 1), (78, .ireturn, 1), (79, .iload_n 1, 1), (80, .bipush 120, 2), (82, .if_icmp .ne 7, 3), (85, .iconst 0, 1), (86, .goto 54, 3), (89, .iload_n 1, 1), (90, .bipush 121, 2), (92, .if_icmp .ne 7, 3), (95, .iconst 1, 1), (96, .goto 44, 3), (99, .iload_n 1, 1), (100, .bipush 118, 2), (102, .if_icmp .ne 7, 3), (105, .iconst 2, 1), (106, .goto 34, 3), (109, .iload_n 1, 1), (110, .bipush 109, 2), (112, .if_icmp .ne 7, 3), (115, .iconst 3, 1), (116, .goto 24, 3), (119, .iload_n 1, 1), (120, .bipush 122, 2), (122, .if_icmp .ne 7, 3), (125, .iconst 4, 1), (126, .goto 14, 3), (129, .iload_n 1, 1), (130, .bipush 114, 2), (132, .if_icmp .ne 7, 3), (135, .iconst 5, 1), (136, .goto 4, 3), (139, .iconst (-1), 1), (140, .ireturn, 1)]
set_option maxRecDepth 100000 in
theorem dX12_itemOf : mj_pd cX12_itemOf pX12_itemOf := mj_pdB (by decide +kernel)
theorem fX12_itemOf : mj_mf mX12_itemOf := ⟨mj_t6 83 (by decide +kernel) rfl, mj_t1 13 (by decide +kernel) rfl, by decide, by decide, by decide⟩
theorem sX12_itemOf : Cond.static yX12_itemOf ∈ mj_GW := mj_t6 82 (by decide +kernel) rfl
def mX12_lowest : mj_m := (12, false, cX12_lowest, 2, some .int, yX12_lowest)
def pX12_lowest : List (Nat × Instr × Nat) := [(0, .iload_n 0, 1), (1, .bipush 108, 2), (3, .if_icmp .ne 22, 3), (6, .iload_n 1, 1), (7, .ifCond .ne 7, 3), (10, .iconst 2, 1), (11, .goto 13, 3), (14, .iload_n 1, 1), (15, .iconst 5, 1), (16, .if_icmp .ne 7, 3), (19, .iconst 1, 1), (20, .goto 4, 3), (23, .iconst 0, 1), (24, .ireturn, 1), (25, .iload_n 1, 1), (26, .iconst 3, 1), (27, .if_icmp .ne 7, 3), (30, .iconst 1, 1), (31, .goto 4, 3), (34, .iconst 0, 1), (35, .ireturn, 1)]
set_option maxRecDepth 100000 in
theorem dX12_lowest : mj_pd cX12_lowest pX12_lowest := mj_pdB (by decide +kernel)
theorem fX12_lowest : mj_mf mX12_lowest := ⟨mj_t6 89 (by decide +kernel) rfl, mj_t1 13 (by decide +kernel) rfl, by decide, by decide, by decide⟩
theorem sX12_lowest : Cond.static yX12_lowest ∈ mj_GW := mj_t6 88 (by decide +kernel) rfl
def mX12_highest : mj_m := (12, false, cX12_highest, 2, some .int, yX12_highest)
def pX12_highest : List (Nat × Instr × Nat) := [(0, .iload_n 0, 1), (1, .bipush 108, 2), (3, .if_icmp .ne 40, 3), (6, .iload_n 1, 1), (7, .ifCond .ne 8, 3), (10, .bipush 20, 2), (12, .goto 30, 3), (15, .iload_n 1, 1), (16, .iconst 5, 1), (17, .if_icmp .ne 8, 3), (20, .bipush 60, 2), (22, .goto 20, 3), (25, .iload_n 1, 1), (26, .iconst 2, 1), (27, .if_icmp .eq 9, 3), (30, .iload_n 1, 1), (31, .bipush 6, 2), (33, .if_icmp .ne 7, 3), (36, .iconst 1, 1), (37, .goto 5, 3), (40, .bipush 9, 2), (42, .ireturn, 1), (43, .iload_n 1, 1), (44, .ifCond .eq 8, 3), (47, .iload_n 1, 1), (48, .iconst 1, 1), (49, .if_icmp .ne 8, 3), (52, .bipush 19, 2), (54, .goto 23, 3), (57, .iload_n 1, 1), (58, .iconst 4, 1), (59, .if_icmp .ne 8, 3), (62, .bipush 9, 2), (64, .goto 13, 3), (67, .iload_n 1, 1), (68, .iconst 5, 1), (69, .if_icmp .ne 7, 3), (72, .iconst 4, 1), (73, .goto 4, 3), (76, .iconst 3, 1), (77, .ireturn, 1)]
set_option maxRecDepth 100000 in
theorem dX12_highest : mj_pd cX12_highest pX12_highest := mj_pdB (by decide +kernel)
theorem fX12_highest : mj_mf mX12_highest := ⟨mj_t6 92 (by decide +kernel) rfl, mj_t1 13 (by decide +kernel) rfl, by decide, by decide, by decide⟩
theorem sX12_highest : Cond.static yX12_highest ∈ mj_GW := mj_t6 91 (by decide +kernel) rfl
def mX12_usual : mj_m := (12, false, cX12_usual, 2, some .int, yX12_usual)
def pX12_usual : List (Nat × Instr × Nat) := [(0, .iload_n 0, 1), (1, .bipush 108, 2), (3, .if_icmp .ne 24, 3), (6, .iload_n 1, 1), (7, .ifCond .ne 8, 3), (10, .bipush 10, 2), (12, .goto 14, 3), (15, .iload_n 1, 1), (16, .iconst 5, 1), (17, .if_icmp .ne 8, 3), (20, .bipush 20, 2), (22, .goto 4, 3), (25, .iconst 0, 1), (26, .ireturn, 1), (27, .iload_n 1, 1), (28, .iconst 1, 1), (29, .if_icmp .eq 8, 3), (32, .iload_n 1, 1), (33, .iconst 4, 1), (34, .if_icmp .ne 7, 3), (37, .iconst 5, 1), (38, .goto 22, 3), (41, .iload_n 1, 1), (42, .iconst 3, 1), (43, .if_icmp .ne 7, 3), (46, .iconst 2, 1), (47, .goto 13, 3), (50, .iload_n 1, 1), (51, .iconst 5, 1), (52, .if_icmp .ne 7, 3), (55, .iconst 4, 1), (56, .goto 4, 3), (59, .iconst 0, 1), (60, .ireturn, 1)]
set_option maxRecDepth 100000 in
theorem dX12_usual : mj_pd cX12_usual pX12_usual := mj_pdB (by decide +kernel)
theorem fX12_usual : mj_mf mX12_usual := ⟨mj_t6 80 (by decide +kernel) rfl, mj_t1 13 (by decide +kernel) rfl, by decide, by decide, by decide⟩
theorem sX12_usual : Cond.static yX12_usual ∈ mj_GW := mj_t6 79 (by decide +kernel) rfl
def mX12_items : mj_m := (12, false, cX12_items, 7, none, yX12_items)
def pX12_items : List (Nat × Instr × Nat) := [(0, .iconst 0, 1), (1, .istore 5, 2), (3, .iload 5, 2), (5, .iload 4, 2), (7, .if_icmp .ge 21, 3), (10, .aload_n 2, 1), (11, .iload_n 3, 1), (12, .iload 5, 2), (14, .iadd, 1), (15, .iload_n 1, 1), (16, .iload 5, 2), (18, .invokestatic 218, 3), (21, .iastore, 1), (22, .iinc 5 1, 3), (25, .goto (-22), 3), (28, .iconst 0, 1), (29, .istore 5, 2), (31, .iload_n 1, 1), (32, .aload_n 0, 1), (33, .invokevirtual 128, 3), (36, .invokestatic 222, 3), (39, .istore 6, 2), (41, .aload_n 0, 1), (42, .getfield 116, 3), (45, .iconst (-1), 1), (46, .if_icmp .ne 85, 3), (49, .iload 6, 2), (51, .iconst (-1), 1), (52, .if_icmp .eq 79, 3), (55, .iload 5, 2), (57, .iload 6, 2), (59, .invokestatic 225, 3), (62, .ifCond .ne 69, 3), (65, .iload 5, 2), (67, .iconst 1, 1), (68, .iload 6, 2), (70, .ishl, 1), (71, .ior, 1), (72, .istore 5, 2), (74, .aload_n 0, 1), (75, .dup, 1), (76, .getfield 109, 3), (79, .iconst 1, 1), (80, .iadd, 1), (81, .putfield 109, 3), (84, .aload_n 2, 1), (85, .iload_n 3, 1), (86, .iload 6, 2), (88, .iadd, 1), (89, .aload_n 0, 1), (90, .iload_n 1, 1), (91, .iload 6, 2), (93, .invokestatic 229, 3), (96, .iload_n 1, 1), (97, .iload 6, 2), (99, .invokestatic 232, 3), (102, .invokevirtual 235, 3), (105, .iastore, 1), (106, .aload_n 0, 1), (107, .getfield 116, 3), (110, .iconst (-1), 1), (111, .if_icmp .ne 14, 3), (114, .iload_n 1, 1), (115, .aload_n 0, 1), (116, .invokevirtual 128, 3), (119, .invokestatic 222, 3), (122, .goto 4, 3), (125, .iconst (-1), 1), (126, .istore 6, 2), (128, .goto (-87), 3), (131, .return_, 1)]
set_option maxRecDepth 100000 in
theorem dX12_items : mj_pd cX12_items pX12_items := mj_pdB (by decide +kernel)
theorem fX12_items : mj_mf mX12_items := ⟨mj_t6 77 (by decide +kernel) rfl, mj_t1 13 (by decide +kernel) rfl, by decide, by decide, by decide⟩
theorem iX12_items : Cond.instanceMethod yX12_items ∈ mj_GW := mj_t6 76 (by decide +kernel) rfl
theorem vX12_items : Cond.selects (mj_own.getD 12 "") yX12_items yX12_items ∈ mj_GW := mj_p3 7 (by decide +kernel) rfl
def mX12_isWhole : mj_m := (12, false, cX12_isWhole, 5, some .boolean, yX12_isWhole)
def pX12_isWhole : List (Nat × Instr × Nat) := [(0, .iload_n 1, 1), (1, .ifCond .eq 14, 3), (4, .aload_n 0, 1), (5, .getfield 238, 3), (8, .ifCond .le 7, 3), (11, .iconst 1, 1), (12, .goto 4, 3), (15, .iconst 0, 1), (16, .istore_n 2, 1), (17, .iconst 0, 1), (18, .istore_n 3, 1), (19, .iload_n 3, 1), (20, .aload_n 0, 1), (21, .getfield 238, 3), (24, .if_icmp .ge 141, 3), (27, .iload_n 2, 1), (28, .ifCond .eq 52, 3), (31, .aload_n 0, 1), (32, .getfield 43, 3), (35, .bipush 6, 2), (37, .iload_n 3, 1), (38, .imul, 1), (39, .iconst 2, 1), (40, .iadd, 1), (41, .iaload, 1), (42, .aload_n 0, 1), (43, .getfield 43, 3), (46, .bipush 6, 2), (48, .iload_n 3, 1), (49, .imul, 1), (50, .iconst 3, 1), (51, .iadd, 1), (52, .iaload, 1), (53, .if_icmp .gt 27, 3), (56, .aload_n 0, 1), (57, .getfield 43, 3), (60, .bipush 6, 2), (62, .iload_n 3, 1), (63, .imul, 1), (64, .iconst 0, 1), (65, .iadd, 1), (66, .iaload, 1), (67, .aload_n 0, 1), (68, .getfield 40, 3), (71, .iconst 0, 1), (72, .iaload, 1), (73, .if_icmp .ge 7, 3), (76, .iconst 1, 1), (77, .goto 4, 3), (80, .iconst 0, 1), (81, .istore_n 2, 1), (82, .iconst 0, 1), (83, .istore 4, 2), (85, .iload 4, 2), (87, .iload_n 3, 1), (88, .if_icmp .ge 71, 3), (91, .iload_n 2, 1), (92, .ifCond .eq 59, 3), (95, .aload_n 0, 1), (96, .getfield 43, 3), (99, .bipush 6, 2), (101, .iload 4, 2), (103, .imul, 1), (104, .iconst 0, 1), (105, .iadd, 1), (106, .iaload, 1), (107, .aload_n 0, 1), (108, .getfield 43, 3), (111, .bipush 6, 2), (113, .iload_n 3, 1), (114, .imul, 1), (115, .iconst 0, 1), (116, .iadd, 1), (117, .iaload, 1), (118, .if_icmp .ne 29, 3), (121, .aload_n 0, 1), (122, .getfield 43, 3), (125, .bipush 6, 2), (127, .iload 4, 2), (129, .imul, 1), (130, .iconst 1, 1), (131, .iadd, 1), (132, .iaload, 1), (133, .aload_n 0, 1), (134, .getfield 43, 3), (137, .bipush 6, 2), (139, .iload_n 3, 1), (140, .imul, 1), (141, .iconst 1, 1), (142, .iadd, 1), (143, .iaload, 1), (144, .if_icmp .eq 7, 3), (147, .iconst 1, 1), (148, .goto 4, 3), (151, .iconst 0, 1), (152, .istore_n 2, 1), (153, .iinc 4 1, 3), (156, .goto (-71), 3), (159, .iinc 3 1, 3), (162, .goto (-143), 3), (165, .iload_n 2, 1), (166, .ireturn, 1)]
set_option maxRecDepth 100000 in
theorem dX12_isWhole : mj_pd cX12_isWhole pX12_isWhole := mj_pdB (by decide +kernel)
theorem fX12_isWhole : mj_mf mX12_isWhole := ⟨mj_t6 110 (by decide +kernel) rfl, mj_t1 13 (by decide +kernel) rfl, by decide, by decide, by decide⟩
theorem iX12_isWhole : Cond.instanceMethod yX12_isWhole ∈ mj_GW := mj_t6 109 (by decide +kernel) rfl
theorem vX12_isWhole : Cond.selects (mj_own.getD 12 "") yX12_isWhole yX12_isWhole ∈ mj_GW := mj_p3 10 (by decide +kernel) rfl
def mX12_readWater : mj_m := (12, false, cX12_readWater, 4, some .int, yX12_readWater)
def pX12_readWater : List (Nat × Instr × Nat) := [(0, .aload_n 0, 1), (1, .iconst 0, 1), (2, .putfield 109, 3), (5, .aload_n 0, 1), (6, .iconst (-1), 1), (7, .putfield 116, 3), (10, .aload_n 0, 1), (11, .iconst 0, 1), (12, .putfield 238, 3), (15, .iconst 0, 1), (16, .istore_n 1, 1), (17, .iconst 1, 1), (18, .istore_n 2, 1), (19, .iload_n 2, 1), (20, .ifCond .eq 157, 3), (23, .aload_n 0, 1), (24, .getfield 116, 3), (27, .iconst (-1), 1), (28, .if_icmp .ne 149, 3), (31, .aload_n 0, 1), (32, .invokevirtual 128, 3), (35, .istore_n 3, 1), (36, .iload_n 3, 1), (37, .bipush 108, 2), (39, .if_icmp .ne 34, 3), (42, .iload_n 1, 1), (43, .ifCond .ne 30, 3), (46, .iconst 1, 1), (47, .istore_n 1, 1), (48, .aload_n 0, 1), (49, .dup, 1), (50, .getfield 109, 3), (53, .iconst 1, 1), (54, .iadd, 1), (55, .putfield 109, 3), (58, .aload_n 0, 1), (59, .iload_n 3, 1), (60, .aload_n 0, 1), (61, .getfield 40, 3), (64, .iconst 0, 1), (65, .bipush 7, 2), (67, .invokevirtual 241, 3), (70, .goto 63, 3), (73, .iload_n 3, 1), (74, .bipush 98, 2), (76, .if_icmp .ne 53, 3), (79, .aload_n 0, 1), (80, .getfield 238, 3), (83, .bipush 8, 2), (85, .if_icmp .ge 44, 3), (88, .aload_n 0, 1), (89, .dup, 1), (90, .getfield 109, 3), (93, .iconst 1, 1), (94, .iadd, 1), (95, .putfield 109, 3), (98, .aload_n 0, 1), (99, .iload_n 3, 1), (100, .aload_n 0, 1), (101, .getfield 43, 3), (104, .bipush 6, 2), (106, .aload_n 0, 1), (107, .getfield 238, 3), (110, .imul, 1), (111, .bipush 6, 2), (113, .invokevirtual 241, 3), (116, .aload_n 0, 1), (117, .dup, 1), (118, .getfield 238, 3), (121, .iconst 1, 1), (122, .iadd, 1), (123, .putfield 238, 3), (126, .goto 7, 3), (129, .aload_n 0, 1), (130, .invokevirtual 125, 3), (133, .aload_n 0, 1), (134, .getfield 116, 3), (137, .iconst (-1), 1), (138, .if_icmp .ne 16, 3), (141, .aload_n 0, 1), (142, .invokevirtual 128, 3), (145, .bipush 59, 2), (147, .if_icmp .ne 7, 3), (150, .iconst 1, 1), (151, .goto 4, 3), (154, .iconst 0, 1), (155, .istore_n 2, 1), (156, .aload_n 0, 1), (157, .dup, 1), (158, .getfield 109, 3), (161, .iload_n 2, 1), (162, .ifCond .eq 7, 3), (165, .iconst 1, 1), (166, .goto 4, 3), (169, .iconst 0, 1), (170, .iadd, 1), (171, .putfield 109, 3), (174, .goto (-155), 3), (177, .aload_n 0, 1), (178, .getfield 116, 3), (181, .iconst (-1), 1), (182, .if_icmp .ne 23, 3), (185, .aload_n 0, 1), (186, .invokevirtual 128, 3), (189, .iconst (-1), 1), (190, .if_icmp .ne 11, 3), (193, .aload_n 0, 1), (194, .iload_n 1, 1), (195, .invokevirtual 245, 3), (198, .ifCond .ne 7, 3), (201, .aload_n 0, 1), (202, .invokevirtual 125, 3), (205, .aload_n 0, 1), (206, .getfield 116, 3), (209, .ireturn, 1)]
set_option maxRecDepth 100000 in
theorem dX12_readWater : mj_pd cX12_readWater pX12_readWater := mj_pdB (by decide +kernel)
theorem fX12_readWater : mj_mf mX12_readWater := ⟨mj_t6 65 (by decide +kernel) rfl, mj_t1 13 (by decide +kernel) rfl, by decide, by decide, by decide⟩
theorem iX12_readWater : Cond.instanceMethod yX12_readWater ∈ mj_GW := mj_t6 64 (by decide +kernel) rfl
theorem vX12_readWater : Cond.selects (mj_own.getD 12 "") yX12_readWater yX12_readWater ∈ mj_GW := mj_p3 4 (by decide +kernel) rfl
def mX12_fault : mj_m := (12, false, cX12_fault, 2, some .int, yX12_fault)
def pX12_fault : List (Nat × Instr × Nat) := [(0, .iload_n 1, 1), (1, .ifCond .ne 10, 3), (4, .aload_n 0, 1), (5, .invokevirtual 249, 3), (8, .goto 18, 3), (11, .iload_n 1, 1), (12, .iconst 1, 1), (13, .if_icmp .ne 11, 3), (16, .aload_n 0, 1), (17, .iconst 4, 1), (18, .invokevirtual 252, 3), (21, .goto 5, 3), (24, .bipush (-2), 2), (26, .ireturn, 1)]
set_option maxRecDepth 100000 in
theorem dX12_fault : mj_pd cX12_fault pX12_fault := mj_pdB (by decide +kernel)
theorem fX12_fault : mj_mf mX12_fault := ⟨mj_t6 61 (by decide +kernel) rfl, mj_t1 13 (by decide +kernel) rfl, by decide, by decide, by decide⟩
theorem iX12_fault : Cond.instanceMethod yX12_fault ∈ mj_GW := mj_t6 59 (by decide +kernel) rfl
theorem vX12_fault : Cond.selects (mj_own.getD 12 "") yX12_fault yX12_fault ∈ mj_GW := mj_t6 60 (by decide +kernel) rfl
def mX12_takeWater : mj_m := (12, false, cX12_takeWater, 2, some .int, yX12_takeWater)
def pX12_takeWater : List (Nat × Instr × Nat) := [(0, .aload_n 0, 1), (1, .aload_n 0, 1), (2, .getfield 238, 3), (5, .putfield 255, 3), (8, .iconst 0, 1), (9, .istore_n 1, 1), (10, .iload_n 1, 1), (11, .bipush 7, 2), (13, .if_icmp .ge 21, 3), (16, .aload_n 0, 1), (17, .getfield 46, 3), (20, .iload_n 1, 1), (21, .aload_n 0, 1), (22, .getfield 40, 3), (25, .iload_n 1, 1), (26, .iaload, 1), (27, .iastore, 1), (28, .iinc 1 1, 3), (31, .goto (-21), 3), (34, .iconst 0, 1), (35, .istore_n 1, 1), (36, .iload_n 1, 1), (37, .bipush 48, 2), (39, .if_icmp .ge 21, 3), (42, .aload_n 0, 1), (43, .getfield 49, 3), (46, .iload_n 1, 1), (47, .aload_n 0, 1), (48, .getfield 43, 3), (51, .iload_n 1, 1), (52, .iaload, 1), (53, .iastore, 1), (54, .iinc 1 1, 3), (57, .goto (-21), 3), (60, .aload_n 0, 1), (61, .invokevirtual 258, 3), (64, .aload_n 0, 1), (65, .iconst 0, 1), (66, .putfield 261, 3), (69, .aload_n 0, 1), (70, .iconst 0, 1), (71, .putfield 264, 3), (74, .aload_n 0, 1), (75, .iconst 0, 1), (76, .putfield 267, 3), (79, .aload_n 0, 1), (80, .iconst 0, 1), (81, .putfield 270, 3), (84, .aload_n 0, 1), (85, .getfield 255, 3), (88, .ireturn, 1)]
set_option maxRecDepth 100000 in
theorem dX12_takeWater : mj_pd cX12_takeWater pX12_takeWater := mj_pdB (by decide +kernel)
theorem fX12_takeWater : mj_mf mX12_takeWater := ⟨mj_t6 188 (by decide +kernel) rfl, mj_t1 13 (by decide +kernel) rfl, by decide, by decide, by decide⟩
theorem iX12_takeWater : Cond.instanceMethod yX12_takeWater ∈ mj_GW := mj_t6 187 (by decide +kernel) rfl
theorem vX12_takeWater : Cond.selects (mj_own.getD 12 "") yX12_takeWater yX12_takeWater ∈ mj_GW := mj_p4 11 (by decide +kernel) rfl
def mX12_begin : mj_m := (12, false, cX12_begin, 2, none, yX12_begin)
def pX12_begin : List (Nat × Instr × Nat) := [(0, .iconst 0, 1), (1, .istore_n 1, 1), (2, .iload_n 1, 1), (3, .aload_n 0, 1), (4, .getfield 255, 3), (7, .if_icmp .ge 110, 3), (10, .aload_n 0, 1), (11, .iload_n 1, 1), (12, .iconst 0, 1), (13, .aload_n 0, 1), (14, .getfield 49, 3), (17, .bipush 6, 2), (19, .iload_n 1, 1), (20, .imul, 1), (21, .iconst 0, 1), (22, .iadd, 1), (23, .iaload, 1), (24, .invokevirtual 274, 3), (27, .aload_n 0, 1), (28, .iload_n 1, 1), (29, .iconst 1, 1), (30, .aload_n 0, 1), (31, .getfield 49, 3), (34, .bipush 6, 2), (36, .iload_n 1, 1), (37, .imul, 1), (38, .iconst 1, 1), (39, .iadd, 1), (40, .iaload, 1), (41, .invokevirtual 274, 3), (44, .aload_n 0, 1), (45, .iload_n 1, 1), (46, .iconst 2, 1), (47, .aload_n 0, 1), (48, .getfield 49, 3), (51, .bipush 6, 2), (53, .iload_n 1, 1), (54, .imul, 1), (55, .iconst 2, 1), (56, .iadd, 1), (57, .iaload, 1), (58, .invokevirtual 274, 3), (61, .aload_n 0, 1), (62, .iload_n 1, 1), (63, .iconst 3, 1), (64, .aload_n 0, 1), (65, .getfield 49, 3), (68, .bipush 6, 2), (70, .iload_n 1, 1), (71, .imul, 1), (72, .iconst 5, 1), (73, .iadd, 1), (74, .iaload, 1), (75, .iconst 4, 1), (76, .if_icmp .ne 7, 3), (79, .iconst (-1), 1), (80, .goto 14, 3), (83, .aload_n 0, 1), (84, .getfield 49, 3), (87, .bipush 6, 2), (89, .iload_n 1, 1), (90, .imul, 1), (91, .iconst 5, 1), (92, .iadd, 1), (93, .iaload, 1), (94, .invokevirtual 274, 3), (97, .aload_n 0, 1), (98, .iload_n 1, 1), (99, .iconst 4, 1), (100, .iconst 0, 1), (101, .invokevirtual 274, 3), (104, .aload_n 0, 1), (105, .iload_n 1, 1), (106, .iconst 5, 1), (107, .iconst 0, 1), (108, .invokevirtual 274, 3), (111, .iinc 1 1, 3), (114, .goto (-112), 3), (117, .aload_n 0, 1), (118, .getfield 52, 3), (121, .bipush 48, 2), (123, .iconst 0, 1), (124, .iastore, 1), (125, .return_, 1)]
set_option maxRecDepth 100000 in
theorem dX12_begin : mj_pd cX12_begin pX12_begin := mj_pdB (by decide +kernel)
theorem fX12_begin : mj_mf mX12_begin := ⟨mj_t6 192 (by decide +kernel) rfl, mj_t1 13 (by decide +kernel) rfl, by decide, by decide, by decide⟩
theorem iX12_begin : Cond.instanceMethod yX12_begin ∈ mj_GW := mj_t6 191 (by decide +kernel) rfl
theorem vX12_begin : Cond.selects (mj_own.getD 12 "") yX12_begin yX12_begin ∈ mj_GW := mj_p4 12 (by decide +kernel) rfl
def mX12_text : mj_m := (12, false, cX12_text, 2, some .int, yX12_text)
def pX12_text : List (Nat × Instr × Nat) := [(0, .iload_n 1, 1), (1, .ifCond .ne 21, 3), (4, .aload_n 0, 1), (5, .invokevirtual 249, 3), (8, .iconst (-1), 1), (9, .if_icmp .ne 13, 3), (12, .aload_n 0, 1), (13, .iconst 0, 1), (14, .putfield 106, 3), (17, .aload_n 0, 1), (18, .invokevirtual 277, 3), (21, .ireturn, 1), (22, .iload_n 1, 1), (23, .iconst 1, 1), (24, .if_icmp .ne 45, 3), (27, .aload_n 0, 1), (28, .getfield 280, 3), (31, .iconst 4, 1), (32, .if_icmp .ge 37, 3), (35, .aload_n 0, 1), (36, .aload_n 0, 1), (37, .getfield 280, 3), (40, .invokevirtual 252, 3), (43, .iconst (-1), 1), (44, .if_icmp .ne 25, 3), (47, .aload_n 0, 1), (48, .iconst 0, 1), (49, .putfield 106, 3), (52, .aload_n 0, 1), (53, .dup, 1), (54, .getfield 280, 3), (57, .iconst 1, 1), (58, .iadd, 1), (59, .putfield 280, 3), (62, .aload_n 0, 1), (63, .getfield 280, 3), (66, .iconst 1, 1), (67, .isub, 1), (68, .ireturn, 1), (69, .iconst (-1), 1), (70, .ireturn, 1)]
set_option maxRecDepth 100000 in
theorem dX12_text : mj_pd cX12_text pX12_text := mj_pdB (by decide +kernel)
theorem fX12_text : mj_mf mX12_text := ⟨mj_t6 184 (by decide +kernel) rfl, mj_t1 13 (by decide +kernel) rfl, by decide, by decide, by decide⟩
theorem iX12_text : Cond.instanceMethod yX12_text ∈ mj_GW := mj_t6 182 (by decide +kernel) rfl
theorem vX12_text : Cond.selects (mj_own.getD 12 "") yX12_text yX12_text ∈ mj_GW := mj_t6 183 (by decide +kernel) rfl
def mX12_of : mj_m := (12, false, cX12_of, 3, some .int, yX12_of)
def pX12_of : List (Nat × Instr × Nat) := [(0, .aload_n 0, 1), (1, .getfield 52, 3), (4, .bipush 6, 2), (6, .iload_n 1, 1), (7, .imul, 1), (8, .iload_n 2, 1), (9, .iadd, 1), (10, .iaload, 1), (11, .ireturn, 1)]
set_option maxRecDepth 100000 in
theorem dX12_of : mj_pd cX12_of pX12_of := mj_pdB (by decide +kernel)
theorem fX12_of : mj_mf mX12_of := ⟨mj_t6 208 (by decide +kernel) rfl, mj_t1 13 (by decide +kernel) rfl, by decide, by decide, by decide⟩
theorem iX12_of : Cond.instanceMethod yX12_of ∈ mj_GW := mj_t6 207 (by decide +kernel) rfl
theorem vX12_of : Cond.selects (mj_own.getD 12 "") yX12_of yX12_of ∈ mj_GW := mj_p4 15 (by decide +kernel) rfl
def mX12_put_ : mj_m := (12, false, cX12_put_, 4, none, yX12_put_)
def pX12_put_ : List (Nat × Instr × Nat) := [(0, .aload_n 0, 1), (1, .getfield 52, 3), (4, .bipush 6, 2), (6, .iload_n 1, 1), (7, .imul, 1), (8, .iload_n 2, 1), (9, .iadd, 1), (10, .iload_n 3, 1), (11, .iastore, 1), (12, .return_, 1)]
set_option maxRecDepth 100000 in
theorem dX12_put_ : mj_pd cX12_put_ pX12_put_ := mj_pdB (by decide +kernel)
theorem fX12_put_ : mj_mf mX12_put_ := ⟨mj_t6 196 (by decide +kernel) rfl, mj_t1 13 (by decide +kernel) rfl, by decide, by decide, by decide⟩
theorem iX12_put_ : Cond.instanceMethod yX12_put_ ∈ mj_GW := mj_t6 195 (by decide +kernel) rfl
theorem vX12_put_ : Cond.selects (mj_own.getD 12 "") yX12_put_ yX12_put_ ∈ mj_GW := mj_p4 13 (by decide +kernel) rfl
def mX12_isBoat : mj_m := (12, false, cX12_isBoat, 2, some .boolean, yX12_isBoat)
def pX12_isBoat : List (Nat × Instr × Nat) := [(0, .iload_n 1, 1), (1, .iconst 0, 1), (2, .aload_n 0, 1), (3, .getfield 255, 3), (6, .iconst 1, 1), (7, .isub, 1), (8, .invokestatic 214, 3), (11, .ireturn, 1)]
set_option maxRecDepth 100000 in
theorem dX12_isBoat : mj_pd cX12_isBoat pX12_isBoat := mj_pdB (by decide +kernel)
theorem fX12_isBoat : mj_mf mX12_isBoat := ⟨mj_t6 204 (by decide +kernel) rfl, mj_t1 13 (by decide +kernel) rfl, by decide, by decide, by decide⟩
theorem iX12_isBoat : Cond.instanceMethod yX12_isBoat ∈ mj_GW := mj_t6 203 (by decide +kernel) rfl
theorem vX12_isBoat : Cond.selects (mj_own.getD 12 "") yX12_isBoat yX12_isBoat ∈ mj_GW := mj_p4 14 (by decide +kernel) rfl
def mX12_most : mj_m := (12, false, cX12_most, 2, some .int, yX12_most)
def pX12_most : List (Nat × Instr × Nat) := [(0, .aload_n 0, 1), (1, .getfield 49, 3), (4, .bipush 6, 2), (6, .iload_n 1, 1), (7, .imul, 1), (8, .iconst 3, 1), (9, .iadd, 1), (10, .iaload, 1), (11, .ireturn, 1)]
set_option maxRecDepth 100000 in
theorem dX12_most : mj_pd cX12_most pX12_most := mj_pdB (by decide +kernel)
theorem fX12_most : mj_mf mX12_most := ⟨mj_t6 212 (by decide +kernel) rfl, mj_t1 13 (by decide +kernel) rfl, by decide, by decide, by decide⟩
theorem iX12_most : Cond.instanceMethod yX12_most ∈ mj_GW := mj_t6 211 (by decide +kernel) rfl
theorem vX12_most : Cond.selects (mj_own.getD 12 "") yX12_most yX12_most ∈ mj_GW := mj_p5 0 (by decide +kernel) rfl
def mX12_leftSeconds : mj_m := (12, false, cX12_leftSeconds, 1, some .int, yX12_leftSeconds)
def pX12_leftSeconds : List (Nat × Instr × Nat) := [(0, .aload_n 0, 1), (1, .getfield 46, 3), (4, .iconst 5, 1), (5, .iaload, 1), (6, .aload_n 0, 1), (7, .getfield 52, 3), (10, .bipush 48, 2), (12, .iaload, 1), (13, .isub, 1), (14, .ireturn, 1)]
set_option maxRecDepth 100000 in
theorem dX12_leftSeconds : mj_pd cX12_leftSeconds pX12_leftSeconds := mj_pdB (by decide +kernel)
theorem fX12_leftSeconds : mj_mf mX12_leftSeconds := ⟨mj_t7 48 (by decide +kernel) rfl, mj_t1 13 (by decide +kernel) rfl, by decide, by decide, by decide⟩
theorem iX12_leftSeconds : Cond.instanceMethod yX12_leftSeconds ∈ mj_GW := mj_t7 47 (by decide +kernel) rfl
theorem vX12_leftSeconds : Cond.selects (mj_own.getD 12 "") yX12_leftSeconds yX12_leftSeconds ∈ mj_GW := mj_p5 11 (by decide +kernel) rfl
def mX12_believed : mj_m := (12, false, cX12_believed, 2, some .int, yX12_believed)
def pX12_believed : List (Nat × Instr × Nat) := [(0, .aload_n 0, 1), (1, .iload_n 1, 1), (2, .iconst 1, 1), (3, .invokevirtual 283, 3), (6, .aload_n 0, 1), (7, .iload_n 1, 1), (8, .iconst 4, 1), (9, .invokevirtual 283, 3), (12, .iconst 1, 1), (13, .if_icmp .ne 7, 3), (16, .iconst 0, 1), (17, .goto 16, 3), (20, .iconst 5, 1), (21, .aload_n 0, 1), (22, .getfield 49, 3), (25, .bipush 6, 2), (27, .iload_n 1, 1), (28, .imul, 1), (29, .iconst 4, 1), (30, .iadd, 1), (31, .iaload, 1), (32, .isub, 1), (33, .iadd, 1), (34, .ireturn, 1)]
set_option maxRecDepth 100000 in
theorem dX12_believed : mj_pd cX12_believed pX12_believed := mj_pdB (by decide +kernel)
theorem fX12_believed : mj_mf mX12_believed := ⟨mj_t7 4 (by decide +kernel) rfl, mj_t1 13 (by decide +kernel) rfl, by decide, by decide, by decide⟩
theorem iX12_believed : Cond.instanceMethod yX12_believed ∈ mj_GW := mj_t7 3 (by decide +kernel) rfl
theorem vX12_believed : Cond.selects (mj_own.getD 12 "") yX12_believed yX12_believed ∈ mj_GW := mj_p5 7 (by decide +kernel) rfl
def mX12_isShadowed : mj_m := (12, false, cX12_isShadowed, 3, some .boolean, yX12_isShadowed)
def pX12_isShadowed : List (Nat × Instr × Nat) := [(0, .iconst 0, 1), (1, .istore_n 2, 1), (2, .iload_n 2, 1), (3, .aload_n 0, 1), (4, .getfield 255, 3), (7, .if_icmp .ge 57, 3), (10, .iload_n 2, 1), (11, .iload_n 1, 1), (12, .if_icmp .eq 46, 3), (15, .aload_n 0, 1), (16, .iload_n 2, 1), (17, .iconst 0, 1), (18, .invokevirtual 283, 3), (21, .aload_n 0, 1), (22, .iload_n 1, 1), (23, .iconst 0, 1), (24, .invokevirtual 283, 3), (27, .isub, 1), (28, .invokestatic 286, 3), (31, .iconst 1, 1), (32, .if_icmp .gt 26, 3), (35, .aload_n 0, 1), (36, .iload_n 1, 1), (37, .iconst 1, 1), (38, .invokevirtual 283, 3), (41, .aload_n 0, 1), (42, .iload_n 2, 1), (43, .iconst 1, 1), (44, .invokevirtual 283, 3), (47, .isub, 1), (48, .iconst 1, 1), (49, .iconst 3, 1), (50, .invokestatic 214, 3), (53, .ifCond .eq 5, 3), (56, .iconst 1, 1), (57, .ireturn, 1), (58, .iinc 2 1, 3), (61, .goto (-59), 3), (64, .iconst 0, 1), (65, .ireturn, 1)]
set_option maxRecDepth 100000 in
theorem dX12_isShadowed : mj_pd cX12_isShadowed pX12_isShadowed := mj_pdB (by decide +kernel)
theorem fX12_isShadowed : mj_mf mX12_isShadowed := ⟨mj_t6 229 (by decide +kernel) rfl, mj_t1 13 (by decide +kernel) rfl, by decide, by decide, by decide⟩
theorem iX12_isShadowed : Cond.instanceMethod yX12_isShadowed ∈ mj_GW := mj_t6 228 (by decide +kernel) rfl
theorem vX12_isShadowed : Cond.selects (mj_own.getD 12 "") yX12_isShadowed yX12_isShadowed ∈ mj_GW := mj_p5 4 (by decide +kernel) rfl
def mX12_isHeld : mj_m := (12, false, cX12_isHeld, 4, some .boolean, yX12_isHeld)
def pX12_isHeld : List (Nat × Instr × Nat) := [(0, .iconst 0, 1), (1, .istore_n 3, 1), (2, .iload_n 3, 1), (3, .aload_n 0, 1), (4, .getfield 255, 3), (7, .if_icmp .ge 31, 3), (10, .aload_n 0, 1), (11, .iload_n 3, 1), (12, .iconst 0, 1), (13, .invokevirtual 283, 3), (16, .iload_n 1, 1), (17, .if_icmp .ne 15, 3), (20, .aload_n 0, 1), (21, .iload_n 3, 1), (22, .iconst 1, 1), (23, .invokevirtual 283, 3), (26, .iload_n 2, 1), (27, .if_icmp .ne 5, 3), (30, .iconst 1, 1), (31, .ireturn, 1), (32, .iinc 3 1, 3), (35, .goto (-33), 3), (38, .iconst 0, 1), (39, .ireturn, 1)]
set_option maxRecDepth 100000 in
theorem dX12_isHeld : mj_pd cX12_isHeld pX12_isHeld := mj_pdB (by decide +kernel)
theorem fX12_isHeld : mj_mf mX12_isHeld := ⟨mj_t7 32 (by decide +kernel) rfl, mj_t1 13 (by decide +kernel) rfl, by decide, by decide, by decide⟩
theorem iX12_isHeld : Cond.instanceMethod yX12_isHeld ∈ mj_GW := mj_t7 31 (by decide +kernel) rfl
theorem vX12_isHeld : Cond.selects (mj_own.getD 12 "") yX12_isHeld yX12_isHeld ∈ mj_GW := mj_p5 9 (by decide +kernel) rfl
def mX12_isLeewardHeld : mj_m := (12, false, cX12_isLeewardHeld, 2, some .boolean, yX12_isLeewardHeld)
def pX12_isLeewardHeld : List (Nat × Instr × Nat) := [(0, .aload_n 0, 1), (1, .iload_n 1, 1), (2, .iconst 0, 1), (3, .invokevirtual 283, 3), (6, .ifCond .le 28, 3), (9, .aload_n 0, 1), (10, .aload_n 0, 1), (11, .iload_n 1, 1), (12, .iconst 0, 1), (13, .invokevirtual 283, 3), (16, .iconst 1, 1), (17, .isub, 1), (18, .aload_n 0, 1), (19, .iload_n 1, 1), (20, .iconst 1, 1), (21, .invokevirtual 283, 3), (24, .invokevirtual 289, 3), (27, .ifCond .eq 7, 3), (30, .iconst 1, 1), (31, .goto 4, 3), (34, .iconst 0, 1), (35, .ireturn, 1)]
set_option maxRecDepth 100000 in
theorem dX12_isLeewardHeld : mj_pd cX12_isLeewardHeld pX12_isLeewardHeld := mj_pdB (by decide +kernel)
theorem fX12_isLeewardHeld : mj_mf mX12_isLeewardHeld := ⟨mj_t7 64 (by decide +kernel) rfl, mj_t1 13 (by decide +kernel) rfl, by decide, by decide, by decide⟩
theorem iX12_isLeewardHeld : Cond.instanceMethod yX12_isLeewardHeld ∈ mj_GW := mj_t7 63 (by decide +kernel) rfl
theorem vX12_isLeewardHeld : Cond.selects (mj_own.getD 12 "") yX12_isLeewardHeld yX12_isLeewardHeld ∈ mj_GW := mj_p5 15 (by decide +kernel) rfl
def mX12_statusBy : mj_m := (12, false, cX12_statusBy, 3, some .int, yX12_statusBy)
def pX12_statusBy : List (Nat × Instr × Nat) := [(0, .iload_n 2, 1), (1, .iconst 1, 1), (2, .if_icmp .ne 21, 3), (5, .aload_n 0, 1), (6, .iload_n 1, 1), (7, .iconst 5, 1), (8, .invokevirtual 283, 3), (11, .iconst 1, 1), (12, .if_icmp .ne 7, 3), (15, .iconst 2, 1), (16, .goto 21, 3), (19, .iconst 0, 1), (20, .goto 17, 3), (23, .aload_n 0, 1), (24, .iload_n 1, 1), (25, .iconst 1, 1), (26, .invokevirtual 283, 3), (29, .ifCond .ge 7, 3), (32, .iconst 1, 1), (33, .goto 4, 3), (36, .iconst 0, 1), (37, .ireturn, 1)]
set_option maxRecDepth 100000 in
theorem dX12_statusBy : mj_pd cX12_statusBy pX12_statusBy := mj_pdB (by decide +kernel)
theorem fX12_statusBy : mj_mf mX12_statusBy := ⟨mj_t6 216 (by decide +kernel) rfl, mj_t1 13 (by decide +kernel) rfl, by decide, by decide, by decide⟩
theorem iX12_statusBy : Cond.instanceMethod yX12_statusBy ∈ mj_GW := mj_t6 215 (by decide +kernel) rfl
theorem vX12_statusBy : Cond.selects (mj_own.getD 12 "") yX12_statusBy yX12_statusBy ∈ mj_GW := mj_p5 1 (by decide +kernel) rfl
def mX12_scoreBy : mj_m := (12, false, cX12_scoreBy, 6, some .int, yX12_scoreBy)
def pX12_scoreBy : List (Nat × Instr × Nat) := [(0, .aload_n 0, 1), (1, .getfield 46, 3), (4, .iconst 2, 1), (5, .iaload, 1), (6, .ifCond .ne 21, 3), (9, .aload_n 0, 1), (10, .getfield 46, 3), (13, .iconst 0, 1), (14, .iaload, 1), (15, .iconst 1, 1), (16, .isub, 1), (17, .aload_n 0, 1), (18, .iload_n 1, 1), (19, .iconst 0, 1), (20, .invokevirtual 283, 3), (23, .isub, 1), (24, .goto 9, 3), (27, .aload_n 0, 1), (28, .iload_n 1, 1), (29, .iconst 0, 1), (30, .invokevirtual 283, 3), (33, .istore_n 3, 1), (34, .aload_n 0, 1), (35, .iload_n 1, 1), (36, .iload_n 2, 1), (37, .invokevirtual 292, 3), (40, .istore 4, 2), (42, .iconst 5, 1), (43, .aload_n 0, 1), (44, .getfield 46, 3), (47, .iconst 1, 1), (48, .iaload, 1), (49, .imul, 1), (50, .iload_n 3, 1), (51, .imul, 1), (52, .aload_n 0, 1), (53, .getfield 46, 3), (56, .iconst 0, 1), (57, .iaload, 1), (58, .iconst 1, 1), (59, .isub, 1), (60, .idiv, 1), (61, .aload_n 0, 1), (62, .iload_n 1, 1), (63, .iconst 2, 1), (64, .invokevirtual 283, 3), (67, .iadd, 1), (68, .iconst 0, 1), (69, .aload_n 0, 1), (70, .iload_n 1, 1), (71, .iconst 1, 1), (72, .invokevirtual 283, 3), (75, .invokestatic 295, 3), (78, .isub, 1), (79, .istore 5, 2), (81, .iload 5, 2), (83, .aload_n 0, 1), (84, .iload_n 1, 1), (85, .invokevirtual 297, 3), (88, .ifCond .eq 7, 3), (91, .iconst 5, 1), (92, .goto 4, 3), (95, .iconst 0, 1), (96, .isub, 1), (97, .iload 4, 2), (99, .iconst 1, 1), (100, .if_icmp .ne 8, 3), (103, .bipush 30, 2), (105, .goto 15, 3), (108, .iload 4, 2), (110, .iconst 2, 1), (111, .if_icmp .ne 8, 3), (114, .bipush 100, 2), (116, .goto 4, 3), (119, .iconst 0, 1), (120, .isub, 1), (121, .ireturn, 1)]
set_option maxRecDepth 100000 in
theorem dX12_scoreBy : mj_pd cX12_scoreBy pX12_scoreBy := mj_pdB (by decide +kernel)
theorem fX12_scoreBy : mj_mf mX12_scoreBy := ⟨mj_t6 224 (by decide +kernel) rfl, mj_t1 13 (by decide +kernel) rfl, by decide, by decide, by decide⟩
theorem iX12_scoreBy : Cond.instanceMethod yX12_scoreBy ∈ mj_GW := mj_t6 223 (by decide +kernel) rfl
theorem vX12_scoreBy : Cond.selects (mj_own.getD 12 "") yX12_scoreBy yX12_scoreBy ∈ mj_GW := mj_p5 3 (by decide +kernel) rfl
def mX12_scoreOf : mj_m := (12, false, cX12_scoreOf, 2, some .int, yX12_scoreOf)
def pX12_scoreOf : List (Nat × Instr × Nat) := [(0, .aload_n 0, 1), (1, .iload_n 1, 1), (2, .aload_n 0, 1), (3, .getfield 46, 3), (6, .bipush 6, 2), (8, .iaload, 1), (9, .invokevirtual 300, 3), (12, .ireturn, 1)]
set_option maxRecDepth 100000 in
theorem dX12_scoreOf : mj_pd cX12_scoreOf pX12_scoreOf := mj_pdB (by decide +kernel)
theorem fX12_scoreOf : mj_mf mX12_scoreOf := ⟨mj_t6 220 (by decide +kernel) rfl, mj_t1 13 (by decide +kernel) rfl, by decide, by decide, by decide⟩
theorem iX12_scoreOf : Cond.instanceMethod yX12_scoreOf ∈ mj_GW := mj_t6 219 (by decide +kernel) rfl
theorem vX12_scoreOf : Cond.selects (mj_own.getD 12 "") yX12_scoreOf yX12_scoreOf ∈ mj_GW := mj_p5 2 (by decide +kernel) rfl
def mX12_placeBy : mj_m := (12, false, cX12_placeBy, 6, some .int, yX12_placeBy)
def pX12_placeBy : List (Nat × Instr × Nat) := [(0, .iconst 1, 1), (1, .istore_n 3, 1), (2, .iconst 0, 1), (3, .istore 4, 2), (5, .iload 4, 2), (7, .aload_n 0, 1), (8, .getfield 255, 3), (11, .if_icmp .ge 55, 3), (14, .aload_n 0, 1), (15, .iload 4, 2), (17, .iload_n 2, 1), (18, .invokevirtual 300, 3), (21, .aload_n 0, 1), (22, .iload_n 1, 1), (23, .iload_n 2, 1), (24, .invokevirtual 300, 3), (27, .isub, 1), (28, .istore 5, 2), (30, .iload_n 3, 1), (31, .iload 4, 2), (33, .iload_n 1, 1), (34, .if_icmp .eq 23, 3), (37, .iload 5, 2), (39, .ifCond .gt 14, 3), (42, .iload 5, 2), (44, .ifCond .ne 13, 3), (47, .iload 4, 2), (49, .iload_n 1, 1), (50, .if_icmp .ge 7, 3), (53, .iconst 1, 1), (54, .goto 4, 3), (57, .iconst 0, 1), (58, .iadd, 1), (59, .istore_n 3, 1), (60, .iinc 4 1, 3), (63, .goto (-58), 3), (66, .iload_n 3, 1), (67, .ireturn, 1)]
set_option maxRecDepth 100000 in
theorem dX12_placeBy : mj_pd cX12_placeBy pX12_placeBy := mj_pdB (by decide +kernel)
theorem fX12_placeBy : mj_mf mX12_placeBy := ⟨mj_t7 0 (by decide +kernel) rfl, mj_t1 13 (by decide +kernel) rfl, by decide, by decide, by decide⟩
theorem iX12_placeBy : Cond.instanceMethod yX12_placeBy ∈ mj_GW := mj_t6 239 (by decide +kernel) rfl
theorem vX12_placeBy : Cond.selects (mj_own.getD 12 "") yX12_placeBy yX12_placeBy ∈ mj_GW := mj_p5 6 (by decide +kernel) rfl
def mX12_placeOf : mj_m := (12, false, cX12_placeOf, 2, some .int, yX12_placeOf)
def pX12_placeOf : List (Nat × Instr × Nat) := [(0, .aload_n 0, 1), (1, .iload_n 1, 1), (2, .aload_n 0, 1), (3, .getfield 46, 3), (6, .bipush 6, 2), (8, .iaload, 1), (9, .invokevirtual 303, 3), (12, .ireturn, 1)]
set_option maxRecDepth 100000 in
theorem dX12_placeOf : mj_pd cX12_placeOf pX12_placeOf := mj_pdB (by decide +kernel)
theorem fX12_placeOf : mj_mf mX12_placeOf := ⟨mj_t6 236 (by decide +kernel) rfl, mj_t1 13 (by decide +kernel) rfl, by decide, by decide, by decide⟩
theorem iX12_placeOf : Cond.instanceMethod yX12_placeOf ∈ mj_GW := mj_t6 235 (by decide +kernel) rfl
theorem vX12_placeOf : Cond.selects (mj_own.getD 12 "") yX12_placeOf yX12_placeOf ∈ mj_GW := mj_p5 5 (by decide +kernel) rfl
def mX12_boat : mj_m := (12, false, cX12_boat, 3, some .int, yX12_boat)
def pX12_boat : List (Nat × Instr × Nat) := [(0, .aload_n 0, 1), (1, .aload_n 0, 1), (2, .iload_n 1, 1), (3, .invokevirtual 306, 3), (6, .ifCond .eq 17, 3), (9, .iload_n 2, 1), (10, .iconst 0, 1), (11, .bipush 11, 2), (13, .invokestatic 214, 3), (16, .ifCond .eq 7, 3), (19, .iconst 0, 1), (20, .goto 4, 3), (23, .iconst 1, 1), (24, .putfield 99, 3), (27, .aload_n 0, 1), (28, .getfield 99, 3), (31, .iconst 1, 1), (32, .if_icmp .ne 5, 3), (35, .iconst 0, 1), (36, .ireturn, 1), (37, .iload_n 2, 1), (38, .tableswitch 129 0 10 #[58, 58, 58, 65, 71, 83, 90, 97, 104, 117, 123], 58), (96, .aload_n 0, 1), (97, .iload_n 1, 1), (98, .iload_n 2, 1), (99, .invokevirtual 283, 3), (102, .ireturn, 1), (103, .aload_n 0, 1), (104, .iload_n 1, 1), (105, .invokevirtual 309, 3), (108, .ireturn, 1), (109, .aload_n 0, 1), (110, .getfield 49, 3), (113, .bipush 6, 2), (115, .iload_n 1, 1), (116, .imul, 1), (117, .iconst 4, 1), (118, .iadd, 1), (119, .iaload, 1), (120, .ireturn, 1), (121, .aload_n 0, 1), (122, .iload_n 1, 1), (123, .iconst 3, 1), (124, .invokevirtual 283, 3), (127, .ireturn, 1), (128, .aload_n 0, 1), (129, .iload_n 1, 1), (130, .iconst 4, 1), (131, .invokevirtual 283, 3), (134, .ireturn, 1), (135, .aload_n 0, 1), (136, .iload_n 1, 1), (137, .iconst 5, 1), (138, .invokevirtual 283, 3), (141, .ireturn, 1), (142, .aload_n 0, 1), (143, .iload_n 1, 1), (144, .aload_n 0, 1), (145, .getfield 46, 3), (148, .bipush 6, 2), (150, .iaload, 1), (151, .invokevirtual 292, 3), (154, .ireturn, 1), (155, .aload_n 0, 1), (156, .iload_n 1, 1), (157, .invokevirtual 312, 3), (160, .ireturn, 1), (161, .aload_n 0, 1), (162, .iload_n 1, 1), (163, .invokevirtual 315, 3), (166, .ireturn, 1), (167, .aload_n 0, 1), (168, .iload_n 1, 1), (169, .invokevirtual 318, 3), (172, .ireturn, 1)]
set_option maxRecDepth 100000 in
theorem dX12_boat : mj_pd cX12_boat pX12_boat := mj_pdB (by decide +kernel)
theorem fX12_boat : mj_mf mX12_boat := ⟨mj_t6 200 (by decide +kernel) rfl, mj_t1 13 (by decide +kernel) rfl, by decide, by decide, by decide⟩
theorem iX12_boat : Cond.instanceMethod yX12_boat ∈ mj_GW := mj_t6 198 (by decide +kernel) rfl
theorem vX12_boat : Cond.selects (mj_own.getD 12 "") yX12_boat yX12_boat ∈ mj_GW := mj_t6 199 (by decide +kernel) rfl
def mX12_line : mj_m := (12, false, cX12_line, 2, some .int, yX12_line)
def pX12_line : List (Nat × Instr × Nat) := [(0, .aload_n 0, 1), (1, .getfield 255, 3), (4, .ifCond .le 22, 3), (7, .iload_n 1, 1), (8, .iconst 0, 1), (9, .bipush 6, 2), (11, .invokestatic 214, 3), (14, .ifCond .eq 12, 3), (17, .aload_n 0, 1), (18, .getfield 46, 3), (21, .iload_n 1, 1), (22, .iaload, 1), (23, .goto 4, 3), (26, .iconst (-1), 1), (27, .ireturn, 1)]
set_option maxRecDepth 100000 in
theorem dX12_line : mj_pd cX12_line pX12_line := mj_pdB (by decide +kernel)
theorem fX12_line : mj_mf mX12_line := ⟨mj_t7 8 (by decide +kernel) rfl, mj_t1 13 (by decide +kernel) rfl, by decide, by decide, by decide⟩
theorem iX12_line : Cond.instanceMethod yX12_line ∈ mj_GW := mj_t7 6 (by decide +kernel) rfl
theorem vX12_line : Cond.selects (mj_own.getD 12 "") yX12_line yX12_line ∈ mj_GW := mj_t7 7 (by decide +kernel) rfl
def mX12_faster : mj_m := (12, false, cX12_faster, 3, none, yX12_faster)
def pX12_faster : List (Nat × Instr × Nat) := [(0, .aload_n 0, 1), (1, .iload_n 1, 1), (2, .iconst 2, 1), (3, .iconst 0, 1), (4, .aload_n 0, 1), (5, .iload_n 1, 1), (6, .invokevirtual 309, 3), (9, .aload_n 0, 1), (10, .iload_n 1, 1), (11, .iconst 2, 1), (12, .invokevirtual 283, 3), (15, .iload_n 2, 1), (16, .iadd, 1), (17, .invokestatic 321, 3), (20, .invokestatic 295, 3), (23, .invokevirtual 274, 3), (26, .return_, 1)]
set_option maxRecDepth 100000 in
theorem dX12_faster : mj_pd cX12_faster pX12_faster := mj_pdB (by decide +kernel)
theorem fX12_faster : mj_mf mX12_faster := ⟨mj_t7 93 (by decide +kernel) rfl, mj_t1 13 (by decide +kernel) rfl, by decide, by decide, by decide⟩
theorem iX12_faster : Cond.instanceMethod yX12_faster ∈ mj_GW := mj_t7 92 (by decide +kernel) rfl
theorem vX12_faster : Cond.selects (mj_own.getD 12 "") yX12_faster yX12_faster ∈ mj_GW := mj_p6 2 (by decide +kernel) rfl
def mX12_wantsOf : mj_m := (12, false, cX12_wantsOf, 5, some .int, yX12_wantsOf)
def pX12_wantsOf : List (Nat × Instr × Nat) := [(0, .aload_n 0, 1), (1, .iload_n 1, 1), (2, .iconst 3, 1), (3, .invokevirtual 283, 3), (6, .istore_n 2, 1), (7, .iload_n 2, 1), (8, .iconst 0, 1), (9, .aload_n 0, 1), (10, .getfield 280, 3), (13, .iconst 1, 1), (14, .isub, 1), (15, .invokestatic 214, 3), (18, .ifCond .ne 5, 3), (21, .iconst 0, 1), (22, .ireturn, 1), (23, .iconst 0, 1), (24, .istore_n 3, 1), (25, .iconst 0, 1), (26, .istore 4, 2), (28, .iload 4, 2), (30, .aload_n 0, 1), (31, .getfield 255, 3), (34, .if_icmp .ge 44, 3), (37, .iload_n 3, 1), (38, .iload 4, 2), (40, .iload_n 1, 1), (41, .if_icmp .eq 28, 3), (44, .aload_n 0, 1), (45, .iload 4, 2), (47, .iconst 0, 1), (48, .invokevirtual 283, 3), (51, .aload_n 0, 1), (52, .iload_n 1, 1), (53, .iconst 0, 1), (54, .invokevirtual 283, 3), (57, .isub, 1), (58, .invokestatic 286, 3), (61, .iconst 1, 1), (62, .if_icmp .gt 7, 3), (65, .iconst 1, 1), (66, .goto 4, 3), (69, .iconst 0, 1), (70, .iadd, 1), (71, .istore_n 3, 1), (72, .iinc 4 1, 3), (75, .goto (-47), 3), (78, .aload_n 0, 1), (79, .getfield 34, 3), (82, .iconst 0, 1), (83, .aload_n 0, 1), (84, .iload_n 1, 1), (85, .invokevirtual 318, 3), (88, .iastore, 1), (89, .aload_n 0, 1), (90, .getfield 34, 3), (93, .iconst 1, 1), (94, .aload_n 0, 1), (95, .invokevirtual 323, 3), (98, .iastore, 1), (99, .aload_n 0, 1), (100, .getfield 34, 3), (103, .iconst 2, 1), (104, .aload_n 0, 1), (105, .iload_n 1, 1), (106, .iconst 2, 1), (107, .invokevirtual 283, 3), (110, .iastore, 1), (111, .aload_n 0, 1), (112, .getfield 34, 3), (115, .iconst 3, 1), (116, .aload_n 0, 1), (117, .iload_n 1, 1), (118, .iconst 0, 1), (119, .invokevirtual 283, 3), (122, .iastore, 1), (123, .aload_n 0, 1), (124, .getfield 34, 3), (127, .iconst 4, 1), (128, .iload_n 3, 1), (129, .iastore, 1), (130, .aload_n 0, 1), (131, .getfield 34, 3), (134, .iconst 5, 1), (135, .aload_n 0, 1), (136, .iload_n 1, 1), (137, .invokevirtual 297, 3), (140, .ifCond .eq 7, 3), (143, .iconst 1, 1), (144, .goto 4, 3), (147, .iconst 0, 1), (148, .iastore, 1), (149, .aload_n 0, 1), (150, .getfield 34, 3), (153, .bipush 6, 2), (155, .aload_n 0, 1), (156, .iload_n 1, 1), (157, .invokevirtual 326, 3), (160, .ifCond .eq 7, 3), (163, .iconst 1, 1), (164, .goto 4, 3), (167, .iconst 0, 1), (168, .iastore, 1), (169, .aload_n 0, 1), (170, .iload_n 2, 1), (171, .invokevirtual 329, 3), (174, .invokestatic 332, 3), (177, .ireturn, 1)]
set_option maxRecDepth 100000 in
theorem dX12_wantsOf : mj_pd cX12_wantsOf pX12_wantsOf := mj_pdB (by decide +kernel)
theorem fX12_wantsOf : mj_mf mX12_wantsOf := ⟨mj_t7 60 (by decide +kernel) rfl, mj_t1 13 (by decide +kernel) rfl, by decide, by decide, by decide⟩
theorem iX12_wantsOf : Cond.instanceMethod yX12_wantsOf ∈ mj_GW := mj_t7 59 (by decide +kernel) rfl
theorem vX12_wantsOf : Cond.selects (mj_own.getD 12 "") yX12_wantsOf yX12_wantsOf ∈ mj_GW := mj_p5 14 (by decide +kernel) rfl
def mX12_speedAll : mj_m := (12, false, cX12_speedAll, 2, none, yX12_speedAll)
def pX12_speedAll : List (Nat × Instr × Nat) := [(0, .iconst 0, 1), (1, .istore_n 1, 1), (2, .iload_n 1, 1), (3, .aload_n 0, 1), (4, .getfield 255, 3), (7, .if_icmp .ge 55, 3), (10, .aload_n 0, 1), (11, .getfield 59, 3), (14, .iload_n 1, 1), (15, .aload_n 0, 1), (16, .iload_n 1, 1), (17, .invokevirtual 297, 3), (20, .bastore, 1), (21, .aload_n 0, 1), (22, .getfield 63, 3), (25, .iload_n 1, 1), (26, .aload_n 0, 1), (27, .iload_n 1, 1), (28, .iconst 1, 1), (29, .invokevirtual 283, 3), (32, .iastore, 1), (33, .aload_n 0, 1), (34, .getfield 66, 3), (37, .iload_n 1, 1), (38, .iload_n 1, 1), (39, .aload_n 0, 1), (40, .getfield 55, 3), (43, .if_icmp .ne 7, 3), (46, .iconst 0, 1), (47, .goto 8, 3), (50, .aload_n 0, 1), (51, .iload_n 1, 1), (52, .invokevirtual 337, 3), (55, .iastore, 1), (56, .iinc 1 1, 3), (59, .goto (-57), 3), (62, .iconst 0, 1), (63, .istore_n 1, 1), (64, .iload_n 1, 1), (65, .aload_n 0, 1), (66, .getfield 255, 3), (69, .if_icmp .ge 20, 3), (72, .aload_n 0, 1), (73, .iload_n 1, 1), (74, .aload_n 0, 1), (75, .getfield 66, 3), (78, .iload_n 1, 1), (79, .iaload, 1), (80, .invokevirtual 340, 3), (83, .iinc 1 1, 3), (86, .goto (-22), 3), (89, .aload_n 0, 1), (90, .getfield 55, 3), (93, .iconst (-1), 1), (94, .if_icmp .eq 42, 3), (97, .aload_n 0, 1), (98, .getfield 343, 3), (101, .ifCond .le 26, 3), (104, .aload_n 0, 1), (105, .aload_n 0, 1), (106, .getfield 55, 3), (109, .iconst 2, 1), (110, .iconst 0, 1), (111, .invokevirtual 274, 3), (114, .aload_n 0, 1), (115, .dup, 1), (116, .getfield 343, 3), (119, .iconst 1, 1), (120, .isub, 1), (121, .putfield 343, 3), (124, .goto 12, 3), (127, .aload_n 0, 1), (128, .aload_n 0, 1), (129, .getfield 55, 3), (132, .iconst 1, 1), (133, .invokevirtual 340, 3), (136, .return_, 1)]
set_option maxRecDepth 100000 in
theorem dX12_speedAll : mj_pd cX12_speedAll pX12_speedAll := mj_pdB (by decide +kernel)
theorem fX12_speedAll : mj_mf mX12_speedAll := ⟨mj_t7 56 (by decide +kernel) rfl, mj_t1 13 (by decide +kernel) rfl, by decide, by decide, by decide⟩
theorem iX12_speedAll : Cond.instanceMethod yX12_speedAll ∈ mj_GW := mj_t7 55 (by decide +kernel) rfl
theorem vX12_speedAll : Cond.selects (mj_own.getD 12 "") yX12_speedAll yX12_speedAll ∈ mj_GW := mj_p5 13 (by decide +kernel) rfl
def mX12_goOne : mj_m := (12, false, cX12_goOne, 3, none, yX12_goOne)
def pX12_goOne : List (Nat × Instr × Nat) := [(0, .iconst 0, 1), (1, .aload_n 0, 1), (2, .iload_n 1, 1), (3, .iconst 2, 1), (4, .invokevirtual 283, 3), (7, .aload_n 0, 1), (8, .getfield 59, 3), (11, .iload_n 1, 1), (12, .baload, 1), (13, .ifCond .eq 7, 3), (16, .iconst 1, 1), (17, .goto 4, 3), (20, .iconst 0, 1), (21, .isub, 1), (22, .invokestatic 295, 3), (25, .istore_n 2, 1), (26, .iload_n 2, 1), (27, .ifCond .le 56, 3), (30, .aload_n 0, 1), (31, .aload_n 0, 1), (32, .iload_n 1, 1), (33, .iconst 0, 1), (34, .invokevirtual 283, 3), (37, .aload_n 0, 1), (38, .iload_n 1, 1), (39, .iconst 1, 1), (40, .invokevirtual 283, 3), (43, .iconst 1, 1), (44, .isub, 1), (45, .invokevirtual 289, 3), (48, .ifCond .eq 15, 3), (51, .aload_n 0, 1), (52, .iload_n 1, 1), (53, .iconst 2, 1), (54, .iconst 0, 1), (55, .invokevirtual 274, 3), (58, .iconst 0, 1), (59, .istore_n 2, 1), (60, .goto (-34), 3), (63, .aload_n 0, 1), (64, .iload_n 1, 1), (65, .iconst 1, 1), (66, .aload_n 0, 1), (67, .iload_n 1, 1), (68, .iconst 1, 1), (69, .invokevirtual 283, 3), (72, .iconst 1, 1), (73, .isub, 1), (74, .invokevirtual 274, 3), (77, .iinc 2 (-1), 3), (80, .goto (-54), 3), (83, .return_, 1)]
set_option maxRecDepth 100000 in
theorem dX12_goOne : mj_pd cX12_goOne pX12_goOne := mj_pdB (by decide +kernel)
theorem fX12_goOne : mj_mf mX12_goOne := ⟨mj_t7 102 (by decide +kernel) rfl, mj_t1 13 (by decide +kernel) rfl, by decide, by decide, by decide⟩
theorem iX12_goOne : Cond.instanceMethod yX12_goOne ∈ mj_GW := mj_t7 101 (by decide +kernel) rfl
theorem vX12_goOne : Cond.selects (mj_own.getD 12 "") yX12_goOne yX12_goOne ∈ mj_GW := mj_p6 4 (by decide +kernel) rfl
def mX12_goAll : mj_m := (12, false, cX12_goAll, 5, none, yX12_goAll)
def pX12_goAll : List (Nat × Instr × Nat) := [(0, .iconst 0, 1), (1, .istore_n 1, 1), (2, .iconst 0, 1), (3, .istore_n 2, 1), (4, .iload_n 2, 1), (5, .aload_n 0, 1), (6, .getfield 255, 3), (9, .if_icmp .ge 77, 3), (12, .iconst (-1), 1), (13, .istore_n 3, 1), (14, .iconst 0, 1), (15, .istore 4, 2), (17, .iload 4, 2), (19, .aload_n 0, 1), (20, .getfield 255, 3), (23, .if_icmp .ge 46, 3), (26, .iload_n 1, 1), (27, .iload 4, 2), (29, .invokestatic 225, 3), (32, .ifCond .ne 29, 3), (35, .iload_n 3, 1), (36, .iconst (-1), 1), (37, .if_icmp .eq 19, 3), (40, .aload_n 0, 1), (41, .getfield 63, 3), (44, .iload 4, 2), (46, .iaload, 1), (47, .aload_n 0, 1), (48, .getfield 63, 3), (51, .iload_n 3, 1), (52, .iaload, 1), (53, .if_icmp .ge 8, 3), (56, .iload 4, 2), (58, .goto 4, 3), (61, .iload_n 3, 1), (62, .istore_n 3, 1), (63, .iinc 4 1, 3), (66, .goto (-49), 3), (69, .iload_n 1, 1), (70, .iconst 1, 1), (71, .iload_n 3, 1), (72, .ishl, 1), (73, .ior, 1), (74, .istore_n 1, 1), (75, .aload_n 0, 1), (76, .iload_n 3, 1), (77, .invokevirtual 346, 3), (80, .iinc 2 1, 3), (83, .goto (-79), 3), (86, .aload_n 0, 1), (87, .getfield 52, 3), (90, .bipush 48, 2), (92, .dup2, 1), (93, .iaload, 1), (94, .iconst 1, 1), (95, .iadd, 1), (96, .iastore, 1), (97, .aload_n 0, 1), (98, .getfield 46, 3), (101, .iconst 3, 1), (102, .iaload, 1), (103, .ifCond .eq 50, 3), (106, .aload_n 0, 1), (107, .getfield 52, 3), (110, .bipush 48, 2), (112, .iaload, 1), (113, .aload_n 0, 1), (114, .getfield 46, 3), (117, .iconst 3, 1), (118, .iaload, 1), (119, .irem, 1), (120, .ifCond .ne 33, 3), (123, .iconst 0, 1), (124, .istore_n 2, 1), (125, .iload_n 2, 1), (126, .aload_n 0, 1), (127, .getfield 255, 3), (130, .if_icmp .ge 23, 3), (133, .aload_n 0, 1), (134, .iload_n 2, 1), (135, .iconst 1, 1), (136, .aload_n 0, 1), (137, .iload_n 2, 1), (138, .iconst 1, 1), (139, .invokevirtual 283, 3), (142, .iconst 1, 1), (143, .isub, 1), (144, .invokevirtual 274, 3), (147, .iinc 2 1, 3), (150, .goto (-25), 3), (153, .aload_n 0, 1), (154, .getfield 46, 3), (157, .iconst 4, 1), (158, .iaload, 1), (159, .ifCond .eq 24, 3), (162, .aload_n 0, 1), (163, .getfield 52, 3), (166, .bipush 48, 2), (168, .iaload, 1), (169, .aload_n 0, 1), (170, .getfield 46, 3), (173, .iconst 4, 1), (174, .iaload, 1), (175, .irem, 1), (176, .ifCond .ne 7, 3), (179, .aload_n 0, 1), (180, .invokevirtual 349, 3), (183, .iconst 0, 1), (184, .istore_n 2, 1), (185, .iload_n 2, 1), (186, .aload_n 0, 1), (187, .getfield 255, 3), (190, .if_icmp .ge 43, 3), (193, .aload_n 0, 1), (194, .iload_n 2, 1), (195, .iconst 5, 1), (196, .aload_n 0, 1), (197, .iload_n 2, 1), (198, .iconst 1, 1), (199, .invokevirtual 283, 3), (202, .ifCond .ge 16, 3), (205, .aload_n 0, 1), (206, .invokevirtual 323, 3), (209, .bipush 9, 2), (211, .if_icmp .gt 7, 3), (214, .iconst 1, 1), (215, .goto 9, 3), (218, .aload_n 0, 1), (219, .iload_n 2, 1), (220, .iconst 5, 1), (221, .invokevirtual 283, 3), (224, .invokevirtual 274, 3), (227, .iinc 2 1, 3), (230, .goto (-45), 3), (233, .return_, 1)]
set_option maxRecDepth 100000 in
theorem dX12_goAll : mj_pd cX12_goAll pX12_goAll := mj_pdB (by decide +kernel)
theorem fX12_goAll : mj_mf mX12_goAll := ⟨mj_t7 98 (by decide +kernel) rfl, mj_t1 13 (by decide +kernel) rfl, by decide, by decide, by decide⟩
theorem iX12_goAll : Cond.instanceMethod yX12_goAll ∈ mj_GW := mj_t7 97 (by decide +kernel) rfl
theorem vX12_goAll : Cond.selects (mj_own.getD 12 "") yX12_goAll yX12_goAll ∈ mj_GW := mj_p6 3 (by decide +kernel) rfl
def mX12_drift : mj_m := (12, false, cX12_drift, 3, none, yX12_drift)
def pX12_drift : List (Nat × Instr × Nat) := [(0, .aload_n 0, 1), (1, .getfield 46, 3), (4, .iconst 0, 1), (5, .iaload, 1), (6, .iconst 2, 1), (7, .isub, 1), (8, .istore_n 1, 1), (9, .iload_n 1, 1), (10, .ifCond .lt 60, 3), (13, .iconst 0, 1), (14, .istore_n 2, 1), (15, .iload_n 2, 1), (16, .aload_n 0, 1), (17, .getfield 255, 3), (20, .if_icmp .ge 44, 3), (23, .aload_n 0, 1), (24, .iload_n 2, 1), (25, .iconst 0, 1), (26, .invokevirtual 283, 3), (29, .iload_n 1, 1), (30, .if_icmp .ne 28, 3), (33, .aload_n 0, 1), (34, .iload_n 1, 1), (35, .iconst 1, 1), (36, .iadd, 1), (37, .aload_n 0, 1), (38, .iload_n 2, 1), (39, .iconst 1, 1), (40, .invokevirtual 283, 3), (43, .invokevirtual 289, 3), (46, .ifCond .ne 12, 3), (49, .aload_n 0, 1), (50, .iload_n 2, 1), (51, .iconst 0, 1), (52, .iload_n 1, 1), (53, .iconst 1, 1), (54, .iadd, 1), (55, .invokevirtual 274, 3), (58, .iinc 2 1, 3), (61, .goto (-46), 3), (64, .iinc 1 (-1), 3), (67, .goto (-58), 3), (70, .return_, 1)]
set_option maxRecDepth 100000 in
theorem dX12_drift : mj_pd cX12_drift pX12_drift := mj_pdB (by decide +kernel)
theorem fX12_drift : mj_mf mX12_drift := ⟨mj_t7 106 (by decide +kernel) rfl, mj_t1 13 (by decide +kernel) rfl, by decide, by decide, by decide⟩
theorem iX12_drift : Cond.instanceMethod yX12_drift ∈ mj_GW := mj_t7 105 (by decide +kernel) rfl
theorem vX12_drift : Cond.selects (mj_own.getD 12 "") yX12_drift yX12_drift ∈ mj_GW := mj_p6 5 (by decide +kernel) rfl
def mX12_pass : mj_m := (12, false, cX12_pass, 1, none, yX12_pass)
def pX12_pass : List (Nat × Instr × Nat) := [(0, .aload_n 0, 1), (1, .invokevirtual 352, 3), (4, .aload_n 0, 1), (5, .invokevirtual 355, 3), (8, .return_, 1)]
set_option maxRecDepth 100000 in
theorem dX12_pass : mj_pd cX12_pass pX12_pass := mj_pdB (by decide +kernel)
theorem fX12_pass : mj_mf mX12_pass := ⟨mj_t7 52 (by decide +kernel) rfl, mj_t1 13 (by decide +kernel) rfl, by decide, by decide, by decide⟩
theorem iX12_pass : Cond.instanceMethod yX12_pass ∈ mj_GW := mj_t7 51 (by decide +kernel) rfl
theorem vX12_pass : Cond.selects (mj_own.getD 12 "") yX12_pass yX12_pass ∈ mj_GW := mj_p5 12 (by decide +kernel) rfl
def mX12_keep : mj_m := (12, false, cX12_keep, 2, some .int, yX12_keep)
def pX12_keep : List (Nat × Instr × Nat) := [(0, .aload_n 0, 1), (1, .getfield 267, 3), (4, .bipush 40, 2), (6, .if_icmp .ne 44, 3), (9, .bipush 49, 2), (11, .istore_n 1, 1), (12, .iload_n 1, 1), (13, .sipush 1960, 3), (16, .if_icmp .ge 24, 3), (19, .aload_n 0, 1), (20, .getfield 69, 3), (23, .iload_n 1, 1), (24, .bipush 49, 2), (26, .isub, 1), (27, .aload_n 0, 1), (28, .getfield 69, 3), (31, .iload_n 1, 1), (32, .iaload, 1), (33, .iastore, 1), (34, .iinc 1 1, 3), (37, .goto (-25), 3), (40, .aload_n 0, 1), (41, .dup, 1), (42, .getfield 267, 3), (45, .iconst 1, 1), (46, .isub, 1), (47, .putfield 267, 3), (50, .iconst 0, 1), (51, .istore_n 1, 1), (52, .iload_n 1, 1), (53, .bipush 49, 2), (55, .if_icmp .ge 29, 3), (58, .aload_n 0, 1), (59, .getfield 69, 3), (62, .bipush 49, 2), (64, .aload_n 0, 1), (65, .getfield 267, 3), (68, .imul, 1), (69, .iload_n 1, 1), (70, .iadd, 1), (71, .aload_n 0, 1), (72, .getfield 52, 3), (75, .iload_n 1, 1), (76, .iaload, 1), (77, .iastore, 1), (78, .iinc 1 1, 3), (81, .goto (-29), 3), (84, .aload_n 0, 1), (85, .dup, 1), (86, .getfield 267, 3), (89, .iconst 1, 1), (90, .iadd, 1), (91, .putfield 267, 3), (94, .aload_n 0, 1), (95, .getfield 267, 3), (98, .ireturn, 1)]
set_option maxRecDepth 100000 in
theorem dX12_keep : mj_pd cX12_keep pX12_keep := mj_pdB (by decide +kernel)
theorem fX12_keep : mj_mf mX12_keep := ⟨mj_t7 16 (by decide +kernel) rfl, mj_t1 13 (by decide +kernel) rfl, by decide, by decide, by decide⟩
theorem iX12_keep : Cond.instanceMethod yX12_keep ∈ mj_GW := mj_t7 15 (by decide +kernel) rfl
theorem vX12_keep : Cond.selects (mj_own.getD 12 "") yX12_keep yX12_keep ∈ mj_GW := mj_p5 8 (by decide +kernel) rfl
def mX12_rule : mj_m := (12, false, cX12_rule, 3, some .int, yX12_rule)
def pX12_rule : List (Nat × Instr × Nat) := [(0, .aload_n 0, 1), (1, .iload_n 1, 1), (2, .invokevirtual 306, 3), (5, .ifCond .eq 22, 3), (8, .iload_n 2, 1), (9, .iconst (-1), 1), (10, .iconst 3, 1), (11, .invokestatic 214, 3), (14, .ifCond .eq 13, 3), (17, .aload_n 0, 1), (18, .iload_n 1, 1), (19, .iconst 3, 1), (20, .invokevirtual 283, 3), (23, .iload_n 2, 1), (24, .if_icmp .ne 5, 3), (27, .iconst (-1), 1), (28, .ireturn, 1), (29, .aload_n 0, 1), (30, .invokevirtual 358, 3), (33, .pop, 1), (34, .aload_n 0, 1), (35, .iload_n 1, 1), (36, .iconst 3, 1), (37, .iload_n 2, 1), (38, .invokevirtual 274, 3), (41, .aload_n 0, 1), (42, .getfield 267, 3), (45, .ireturn, 1)]
set_option maxRecDepth 100000 in
theorem dX12_rule : mj_pd cX12_rule pX12_rule := mj_pdB (by decide +kernel)
theorem fX12_rule : mj_mf mX12_rule := ⟨mj_t7 12 (by decide +kernel) rfl, mj_t1 13 (by decide +kernel) rfl, by decide, by decide, by decide⟩
theorem iX12_rule : Cond.instanceMethod yX12_rule ∈ mj_GW := mj_t7 10 (by decide +kernel) rfl
theorem vX12_rule : Cond.selects (mj_own.getD 12 "") yX12_rule yX12_rule ∈ mj_GW := mj_t7 11 (by decide +kernel) rfl
def mX12_mark : mj_m := (12, false, cX12_mark, 2, some .int, yX12_mark)
def pX12_mark : List (Nat × Instr × Nat) := [(0, .aload_n 0, 1), (1, .iload_n 1, 1), (2, .invokevirtual 306, 3), (5, .ifCond .eq 13, 3), (8, .aload_n 0, 1), (9, .iload_n 1, 1), (10, .iconst 4, 1), (11, .invokevirtual 283, 3), (14, .iconst 1, 1), (15, .if_icmp .ne 5, 3), (18, .iconst (-1), 1), (19, .ireturn, 1), (20, .aload_n 0, 1), (21, .invokevirtual 358, 3), (24, .pop, 1), (25, .aload_n 0, 1), (26, .iload_n 1, 1), (27, .iconst 4, 1), (28, .iconst 1, 1), (29, .invokevirtual 274, 3), (32, .aload_n 0, 1), (33, .getfield 267, 3), (36, .ireturn, 1)]
set_option maxRecDepth 100000 in
theorem dX12_mark : mj_pd cX12_mark pX12_mark := mj_pdB (by decide +kernel)
theorem fX12_mark : mj_mf mX12_mark := ⟨mj_t7 20 (by decide +kernel) rfl, mj_t1 13 (by decide +kernel) rfl, by decide, by decide, by decide⟩
theorem iX12_mark : Cond.instanceMethod yX12_mark ∈ mj_GW := mj_t7 18 (by decide +kernel) rfl
theorem vX12_mark : Cond.selects (mj_own.getD 12 "") yX12_mark yX12_mark ∈ mj_GW := mj_t7 19 (by decide +kernel) rfl
def mX12_speed : mj_m := (12, false, cX12_speed, 3, some .int, yX12_speed)
def pX12_speed : List (Nat × Instr × Nat) := [(0, .aload_n 0, 1), (1, .iload_n 1, 1), (2, .invokevirtual 306, 3), (5, .ifCond .eq 26, 3), (8, .iload_n 2, 1), (9, .iconst 0, 1), (10, .aload_n 0, 1), (11, .iload_n 1, 1), (12, .invokevirtual 309, 3), (15, .invokestatic 214, 3), (18, .ifCond .eq 13, 3), (21, .aload_n 0, 1), (22, .iload_n 1, 1), (23, .iconst 2, 1), (24, .invokevirtual 283, 3), (27, .iload_n 2, 1), (28, .if_icmp .ne 5, 3), (31, .iconst (-1), 1), (32, .ireturn, 1), (33, .aload_n 0, 1), (34, .invokevirtual 358, 3), (37, .pop, 1), (38, .aload_n 0, 1), (39, .iload_n 1, 1), (40, .iconst 2, 1), (41, .iload_n 2, 1), (42, .invokevirtual 274, 3), (45, .aload_n 0, 1), (46, .getfield 267, 3), (49, .ireturn, 1)]
set_option maxRecDepth 100000 in
theorem dX12_speed : mj_pd cX12_speed pX12_speed := mj_pdB (by decide +kernel)
theorem fX12_speed : mj_mf mX12_speed := ⟨mj_t7 24 (by decide +kernel) rfl, mj_t1 13 (by decide +kernel) rfl, by decide, by decide, by decide⟩
theorem iX12_speed : Cond.instanceMethod yX12_speed ∈ mj_GW := mj_t7 22 (by decide +kernel) rfl
theorem vX12_speed : Cond.selects (mj_own.getD 12 "") yX12_speed yX12_speed ∈ mj_GW := mj_t7 23 (by decide +kernel) rfl
def mX12_steer : mj_m := (12, false, cX12_steer, 4, some .int, yX12_steer)
def pX12_steer : List (Nat × Instr × Nat) := [(0, .aload_n 0, 1), (1, .iload_n 1, 1), (2, .invokevirtual 306, 3), (5, .ifCond .eq 13, 3), (8, .iload_n 2, 1), (9, .iconst (-1), 1), (10, .if_icmp .eq 10, 3), (13, .iload_n 2, 1), (14, .iconst 1, 1), (15, .if_icmp .eq 5, 3), (18, .iconst (-1), 1), (19, .ireturn, 1), (20, .aload_n 0, 1), (21, .iload_n 1, 1), (22, .iconst 0, 1), (23, .invokevirtual 283, 3), (26, .iload_n 2, 1), (27, .iadd, 1), (28, .istore_n 3, 1), (29, .iload_n 3, 1), (30, .iconst 0, 1), (31, .aload_n 0, 1), (32, .getfield 46, 3), (35, .iconst 0, 1), (36, .iaload, 1), (37, .iconst 1, 1), (38, .isub, 1), (39, .invokestatic 214, 3), (42, .ifCond .eq 17, 3), (45, .aload_n 0, 1), (46, .iload_n 3, 1), (47, .aload_n 0, 1), (48, .iload_n 1, 1), (49, .iconst 1, 1), (50, .invokevirtual 283, 3), (53, .invokevirtual 289, 3), (56, .ifCond .eq 5, 3), (59, .iconst (-1), 1), (60, .ireturn, 1), (61, .aload_n 0, 1), (62, .invokevirtual 358, 3), (65, .pop, 1), (66, .aload_n 0, 1), (67, .iload_n 1, 1), (68, .iconst 0, 1), (69, .iload_n 3, 1), (70, .invokevirtual 274, 3), (73, .iload_n 3, 1), (74, .ireturn, 1)]
set_option maxRecDepth 100000 in
theorem dX12_steer : mj_pd cX12_steer pX12_steer := mj_pdB (by decide +kernel)
theorem fX12_steer : mj_mf mX12_steer := ⟨mj_t7 28 (by decide +kernel) rfl, mj_t1 13 (by decide +kernel) rfl, by decide, by decide, by decide⟩
theorem iX12_steer : Cond.instanceMethod yX12_steer ∈ mj_GW := mj_t7 26 (by decide +kernel) rfl
theorem vX12_steer : Cond.selects (mj_own.getD 12 "") yX12_steer yX12_steer ∈ mj_GW := mj_t7 27 (by decide +kernel) rfl
def mX12_gust : mj_m := (12, false, cX12_gust, 2, some .boolean, yX12_gust)
def pX12_gust : List (Nat × Instr × Nat) := [(0, .iload_n 1, 1), (1, .iconst 0, 1), (2, .bipush 99, 2), (4, .invokestatic 214, 3), (7, .ifCond .eq 11, 3), (10, .iload_n 1, 1), (11, .aload_n 0, 1), (12, .getfield 361, 3), (15, .if_icmp .ne 5, 3), (18, .iconst 0, 1), (19, .ireturn, 1), (20, .aload_n 0, 1), (21, .iload_n 1, 1), (22, .putfield 361, 3), (25, .iconst 1, 1), (26, .ireturn, 1)]
set_option maxRecDepth 100000 in
theorem dX12_gust : mj_pd cX12_gust pX12_gust := mj_pdB (by decide +kernel)
theorem fX12_gust : mj_mf mX12_gust := ⟨mj_t7 36 (by decide +kernel) rfl, mj_t1 13 (by decide +kernel) rfl, by decide, by decide, by decide⟩
theorem iX12_gust : Cond.instanceMethod yX12_gust ∈ mj_GW := mj_t7 34 (by decide +kernel) rfl
theorem vX12_gust : Cond.selects (mj_own.getD 12 "") yX12_gust yX12_gust ∈ mj_GW := mj_t7 35 (by decide +kernel) rfl
def mX12_areSeconds : mj_m := (12, false, cX12_areSeconds, 2, some .boolean, yX12_areSeconds)
def pX12_areSeconds : List (Nat × Instr × Nat) := [(0, .aload_n 0, 1), (1, .getfield 255, 3), (4, .ifCond .le 19, 3), (7, .iload_n 1, 1), (8, .iconst 1, 1), (9, .aload_n 0, 1), (10, .invokevirtual 323, 3), (13, .invokestatic 214, 3), (16, .ifCond .eq 7, 3), (19, .iconst 1, 1), (20, .goto 4, 3), (23, .iconst 0, 1), (24, .ireturn, 1)]
set_option maxRecDepth 100000 in
theorem dX12_areSeconds : mj_pd cX12_areSeconds pX12_areSeconds := mj_pdB (by decide +kernel)
theorem fX12_areSeconds : mj_mf mX12_areSeconds := ⟨mj_t7 44 (by decide +kernel) rfl, mj_t1 13 (by decide +kernel) rfl, by decide, by decide, by decide⟩
theorem iX12_areSeconds : Cond.instanceMethod yX12_areSeconds ∈ mj_GW := mj_t7 43 (by decide +kernel) rfl
theorem vX12_areSeconds : Cond.selects (mj_own.getD 12 "") yX12_areSeconds yX12_areSeconds ∈ mj_GW := mj_p5 10 (by decide +kernel) rfl
def mX12_go : mj_m := (12, false, cX12_go, 3, some .int, yX12_go)
def pX12_go : List (Nat × Instr × Nat) := [(0, .aload_n 0, 1), (1, .iload_n 1, 1), (2, .invokevirtual 364, 3), (5, .ifCond .ne 5, 3), (8, .iconst (-1), 1), (9, .ireturn, 1), (10, .iconst 0, 1), (11, .istore_n 2, 1), (12, .iload_n 2, 1), (13, .iload_n 1, 1), (14, .if_icmp .ge 18, 3), (17, .aload_n 0, 1), (18, .invokevirtual 358, 3), (21, .pop, 1), (22, .aload_n 0, 1), (23, .invokevirtual 367, 3), (26, .iinc 2 1, 3), (29, .goto (-17), 3), (32, .aload_n 0, 1), (33, .getfield 52, 3), (36, .bipush 48, 2), (38, .iaload, 1), (39, .ireturn, 1)]
set_option maxRecDepth 100000 in
theorem dX12_go : mj_pd cX12_go pX12_go := mj_pdB (by decide +kernel)
theorem fX12_go : mj_mf mX12_go := ⟨mj_t7 40 (by decide +kernel) rfl, mj_t1 13 (by decide +kernel) rfl, by decide, by decide, by decide⟩
theorem iX12_go : Cond.instanceMethod yX12_go ∈ mj_GW := mj_t7 38 (by decide +kernel) rfl
theorem vX12_go : Cond.selects (mj_own.getD 12 "") yX12_go yX12_go ∈ mj_GW := mj_t7 39 (by decide +kernel) rfl
def mX12_draw : mj_m := (12, false, cX12_draw, 2, some .int, yX12_draw)
def pX12_draw : List (Nat × Instr × Nat) := [(0, .aload_n 0, 1), (1, .aload_n 0, 1), (2, .getfield 370, 3), (5, .ldc2_w 374, 3), (8, .lmul, 1), (9, .ldc2_w 376, 3), (12, .ladd, 1), (13, .putfield 370, 3), (16, .aload_n 0, 1), (17, .getfield 370, 3), (20, .bipush 33, 2), (22, .lushr, 1), (23, .iload_n 1, 1), (24, .i2l, 1), (25, .lrem, 1), (26, .l2i, 1), (27, .ireturn, 1)]
set_option maxRecDepth 100000 in
theorem dX12_draw : mj_pd cX12_draw pX12_draw := mj_pdB (by decide +kernel)
theorem fX12_draw : mj_mf mX12_draw := ⟨mj_t7 114 (by decide +kernel) rfl, mj_t1 13 (by decide +kernel) rfl, by decide, by decide, by decide⟩
theorem iX12_draw : Cond.instanceMethod yX12_draw ∈ mj_GW := mj_t7 113 (by decide +kernel) rfl
theorem vX12_draw : Cond.selects (mj_own.getD 12 "") yX12_draw yX12_draw ∈ mj_GW := mj_p6 6 (by decide +kernel) rfl
def mX12_blow : mj_m := (12, false, cX12_blow, 6, some .int, yX12_blow)
def pX12_blow : List (Nat × Instr × Nat) := [(0, .aload_n 0, 1), (1, .iload_n 1, 1), (2, .invokevirtual 364, 3), (5, .ifCond .ne 5, 3), (8, .iconst (-1), 1), (9, .ireturn, 1), (10, .aload_n 0, 1), (11, .lload_n 2, 1), (12, .putfield 370, 3), (15, .iconst 0, 1), (16, .istore 4, 2), (18, .iload 4, 2), (20, .iload_n 1, 1), (21, .if_icmp .ge 72, 3), (24, .aload_n 0, 1), (25, .invokevirtual 358, 3), (28, .pop, 1), (29, .aload_n 0, 1), (30, .invokevirtual 352, 3), (33, .iconst 0, 1), (34, .istore 5, 2), (36, .iload 5, 2), (38, .aload_n 0, 1), (39, .getfield 255, 3), (42, .if_icmp .ge 41, 3), (45, .aload_n 0, 1), (46, .bipush 100, 2), (48, .invokevirtual 378, 3), (51, .aload_n 0, 1), (52, .getfield 361, 3), (55, .if_icmp .ge 22, 3), (58, .aload_n 0, 1), (59, .iload 5, 2), (61, .aload_n 0, 1), (62, .iconst 2, 1), (63, .invokevirtual 378, 3), (66, .ifCond .ne 7, 3), (69, .iconst (-1), 1), (70, .goto 4, 3), (73, .iconst 1, 1), (74, .invokevirtual 340, 3), (77, .iinc 5 1, 3), (80, .goto (-44), 3), (83, .aload_n 0, 1), (84, .invokevirtual 355, 3), (87, .iinc 4 1, 3), (90, .goto (-72), 3), (93, .aload_n 0, 1), (94, .getfield 52, 3), (97, .bipush 48, 2), (99, .iaload, 1), (100, .ireturn, 1)]
set_option maxRecDepth 100000 in
theorem dX12_blow : mj_pd cX12_blow pX12_blow := mj_pdB (by decide +kernel)
theorem fX12_blow : mj_mf mX12_blow := ⟨mj_t7 110 (by decide +kernel) rfl, mj_t1 13 (by decide +kernel) rfl, by decide, by decide, by decide⟩
theorem iX12_blow : Cond.instanceMethod yX12_blow ∈ mj_GW := mj_t7 108 (by decide +kernel) rfl
theorem vX12_blow : Cond.selects (mj_own.getD 12 "") yX12_blow yX12_blow ∈ mj_GW := mj_t7 109 (by decide +kernel) rfl
def mX12_undo : mj_m := (12, false, cX12_undo, 2, some .int, yX12_undo)
def pX12_undo : List (Nat × Instr × Nat) := [(0, .aload_n 0, 1), (1, .getfield 267, 3), (4, .ifCond .ne 5, 3), (7, .iconst (-1), 1), (8, .ireturn, 1), (9, .aload_n 0, 1), (10, .dup, 1), (11, .getfield 267, 3), (14, .iconst 1, 1), (15, .isub, 1), (16, .putfield 267, 3), (19, .iconst 0, 1), (20, .istore_n 1, 1), (21, .iload_n 1, 1), (22, .bipush 49, 2), (24, .if_icmp .ge 29, 3), (27, .aload_n 0, 1), (28, .getfield 52, 3), (31, .iload_n 1, 1), (32, .aload_n 0, 1), (33, .getfield 69, 3), (36, .bipush 49, 2), (38, .aload_n 0, 1), (39, .getfield 267, 3), (42, .imul, 1), (43, .iload_n 1, 1), (44, .iadd, 1), (45, .iaload, 1), (46, .iastore, 1), (47, .iinc 1 1, 3), (50, .goto (-29), 3), (53, .aload_n 0, 1), (54, .getfield 267, 3), (57, .ireturn, 1)]
set_option maxRecDepth 100000 in
theorem dX12_undo : mj_pd cX12_undo pX12_undo := mj_pdB (by decide +kernel)
theorem fX12_undo : mj_mf mX12_undo := ⟨mj_t7 120 (by decide +kernel) rfl, mj_t1 13 (by decide +kernel) rfl, by decide, by decide, by decide⟩
theorem iX12_undo : Cond.instanceMethod yX12_undo ∈ mj_GW := mj_t7 118 (by decide +kernel) rfl
theorem vX12_undo : Cond.selects (mj_own.getD 12 "") yX12_undo yX12_undo ∈ mj_GW := mj_t7 119 (by decide +kernel) rfl
def mX12_putAside : mj_m := (12, false, cX12_putAside, 2, none, yX12_putAside)
def pX12_putAside : List (Nat × Instr × Nat) := [(0, .iconst 0, 1), (1, .istore_n 1, 1), (2, .iload_n 1, 1), (3, .bipush 49, 2), (5, .if_icmp .ge 21, 3), (8, .aload_n 0, 1), (9, .getfield 72, 3), (12, .iload_n 1, 1), (13, .aload_n 0, 1), (14, .getfield 52, 3), (17, .iload_n 1, 1), (18, .iaload, 1), (19, .iastore, 1), (20, .iinc 1 1, 3), (23, .goto (-21), 3), (26, .return_, 1)]
set_option maxRecDepth 100000 in
theorem dX12_putAside : mj_pd cX12_putAside pX12_putAside := mj_pdB (by decide +kernel)
theorem fX12_putAside : mj_mf mX12_putAside := ⟨mj_t7 129 (by decide +kernel) rfl, mj_t1 13 (by decide +kernel) rfl, by decide, by decide, by decide⟩
theorem iX12_putAside : Cond.instanceMethod yX12_putAside ∈ mj_GW := mj_t7 128 (by decide +kernel) rfl
theorem vX12_putAside : Cond.selects (mj_own.getD 12 "") yX12_putAside yX12_putAside ∈ mj_GW := mj_p6 7 (by decide +kernel) rfl
def mX12_takeBack : mj_m := (12, false, cX12_takeBack, 2, none, yX12_takeBack)
def pX12_takeBack : List (Nat × Instr × Nat) := [(0, .iconst 0, 1), (1, .istore_n 1, 1), (2, .iload_n 1, 1), (3, .bipush 49, 2), (5, .if_icmp .ge 21, 3), (8, .aload_n 0, 1), (9, .getfield 52, 3), (12, .iload_n 1, 1), (13, .aload_n 0, 1), (14, .getfield 72, 3), (17, .iload_n 1, 1), (18, .iaload, 1), (19, .iastore, 1), (20, .iinc 1 1, 3), (23, .goto (-21), 3), (26, .aload_n 0, 1), (27, .iconst (-1), 1), (28, .putfield 55, 3), (31, .aload_n 0, 1), (32, .iconst 0, 1), (33, .putfield 343, 3), (36, .return_, 1)]
set_option maxRecDepth 100000 in
theorem dX12_takeBack : mj_pd cX12_takeBack pX12_takeBack := mj_pdB (by decide +kernel)
theorem fX12_takeBack : mj_mf mX12_takeBack := ⟨mj_t7 137 (by decide +kernel) rfl, mj_t1 13 (by decide +kernel) rfl, by decide, by decide, by decide⟩
theorem iX12_takeBack : Cond.instanceMethod yX12_takeBack ∈ mj_GW := mj_t7 136 (by decide +kernel) rfl
theorem vX12_takeBack : Cond.selects (mj_own.getD 12 "") yX12_takeBack yX12_takeBack ∈ mj_GW := mj_p6 9 (by decide +kernel) rfl
def mX12_toGun : mj_m := (12, false, cX12_toGun, 1, none, yX12_toGun)
def pX12_toGun : List (Nat × Instr × Nat) := [(0, .aload_n 0, 1), (1, .invokevirtual 323, 3), (4, .ifCond .le 10, 3), (7, .aload_n 0, 1), (8, .invokevirtual 367, 3), (11, .goto (-11), 3), (14, .return_, 1)]
set_option maxRecDepth 100000 in
theorem dX12_toGun : mj_pd cX12_toGun pX12_toGun := mj_pdB (by decide +kernel)
theorem fX12_toGun : mj_mf mX12_toGun := ⟨mj_t7 133 (by decide +kernel) rfl, mj_t1 13 (by decide +kernel) rfl, by decide, by decide, by decide⟩
theorem iX12_toGun : Cond.instanceMethod yX12_toGun ∈ mj_GW := mj_t7 132 (by decide +kernel) rfl
theorem vX12_toGun : Cond.selects (mj_own.getD 12 "") yX12_toGun yX12_toGun ∈ mj_GW := mj_p6 8 (by decide +kernel) rfl
def mX12_ahead : mj_m := (12, false, cX12_ahead, 4, some .int, yX12_ahead)
def pX12_ahead : List (Nat × Instr × Nat) := [(0, .aload_n 0, 1), (1, .iload_n 1, 1), (2, .invokevirtual 306, 3), (5, .ifCond .eq 12, 3), (8, .iload_n 2, 1), (9, .iconst 0, 1), (10, .iconst 5, 1), (11, .invokestatic 214, 3), (14, .ifCond .ne 7, 3), (17, .ldc_w 381, 3), (20, .ireturn, 1), (21, .aload_n 0, 1), (22, .invokevirtual 382, 3), (25, .aload_n 0, 1), (26, .invokevirtual 385, 3), (29, .iload_n 2, 1), (30, .iconst 3, 1), (31, .if_icmp .ge 12, 3), (34, .aload_n 0, 1), (35, .iload_n 1, 1), (36, .iload_n 2, 1), (37, .invokevirtual 283, 3), (40, .goto 41, 3), (43, .iload_n 2, 1), (44, .iconst 3, 1), (45, .if_icmp .ne 18, 3), (48, .aload_n 0, 1), (49, .iload_n 1, 1), (50, .aload_n 0, 1), (51, .getfield 46, 3), (54, .bipush 6, 2), (56, .iaload, 1), (57, .invokevirtual 292, 3), (60, .goto 21, 3), (63, .iload_n 2, 1), (64, .iconst 4, 1), (65, .if_icmp .ne 11, 3), (68, .aload_n 0, 1), (69, .iload_n 1, 1), (70, .invokevirtual 312, 3), (73, .goto 8, 3), (76, .aload_n 0, 1), (77, .iload_n 1, 1), (78, .invokevirtual 315, 3), (81, .istore_n 3, 1), (82, .aload_n 0, 1), (83, .invokevirtual 388, 3), (86, .iload_n 3, 1), (87, .ireturn, 1)]
set_option maxRecDepth 100000 in
theorem dX12_ahead : mj_pd cX12_ahead pX12_ahead := mj_pdB (by decide +kernel)
theorem fX12_ahead : mj_mf mX12_ahead := ⟨mj_t7 124 (by decide +kernel) rfl, mj_t1 13 (by decide +kernel) rfl, by decide, by decide, by decide⟩
theorem iX12_ahead : Cond.instanceMethod yX12_ahead ∈ mj_GW := mj_t7 122 (by decide +kernel) rfl
theorem vX12_ahead : Cond.selects (mj_own.getD 12 "") yX12_ahead yX12_ahead ∈ mj_GW := mj_t7 123 (by decide +kernel) rfl
def mX12_scoreAtGun : mj_m := (12, false, cX12_scoreAtGun, 3, some .int, yX12_scoreAtGun)
def pX12_scoreAtGun : List (Nat × Instr × Nat) := [(0, .aload_n 0, 1), (1, .invokevirtual 385, 3), (4, .aload_n 0, 1), (5, .iload_n 1, 1), (6, .invokevirtual 312, 3), (9, .istore_n 2, 1), (10, .aload_n 0, 1), (11, .invokevirtual 388, 3), (14, .iload_n 2, 1), (15, .ireturn, 1)]
set_option maxRecDepth 100000 in
theorem dX12_scoreAtGun : mj_pd cX12_scoreAtGun pX12_scoreAtGun := mj_pdB (by decide +kernel)
theorem fX12_scoreAtGun : mj_mf mX12_scoreAtGun := ⟨mj_t7 149 (by decide +kernel) rfl, mj_t1 13 (by decide +kernel) rfl, by decide, by decide, by decide⟩
theorem iX12_scoreAtGun : Cond.instanceMethod yX12_scoreAtGun ∈ mj_GW := mj_t7 148 (by decide +kernel) rfl
theorem vX12_scoreAtGun : Cond.selects (mj_own.getD 12 "") yX12_scoreAtGun yX12_scoreAtGun ∈ mj_GW := mj_p6 11 (by decide +kernel) rfl
def mX12_bestCell : mj_m := (12, false, cX12_bestCell, 10, some .int, yX12_bestCell)
def pX12_bestCell : List (Nat × Instr × Nat) := [(0, .aload_n 0, 1), (1, .invokevirtual 382, 3), (4, .iconst (-1), 1), (5, .istore 5, 2), (7, .iconst 0, 1), (8, .istore 6, 2), (10, .iconst 0, 1), (11, .istore 7, 2), (13, .iload 7, 2), (15, .iload_n 3, 1), (16, .if_icmp .ge 105, 3), (19, .aload_n 0, 1), (20, .iload_n 1, 1), (21, .iload_n 2, 1), (22, .invokevirtual 283, 3), (25, .iload 7, 2), (27, .if_icmp .ne 7, 3), (30, .iconst 1, 1), (31, .goto 4, 3), (34, .iconst 0, 1), (35, .istore 8, 2), (37, .iload 8, 2), (39, .ifCond .ne 40, 3), (42, .aload_n 0, 1), (43, .iload_n 2, 1), (44, .ifCond .ne 8, 3), (47, .iload 7, 2), (49, .goto 9, 3), (52, .aload_n 0, 1), (53, .iload_n 1, 1), (54, .iconst 0, 1), (55, .invokevirtual 283, 3), (58, .iload_n 2, 1), (59, .ifCond .ne 12, 3), (62, .aload_n 0, 1), (63, .iload_n 1, 1), (64, .iconst 1, 1), (65, .invokevirtual 283, 3), (68, .goto 5, 3), (71, .iload 7, 2), (73, .invokevirtual 289, 3), (76, .ifCond .ne 39, 3), (79, .aload_n 0, 1), (80, .iload_n 1, 1), (81, .iload_n 2, 1), (82, .iload 7, 2), (84, .invokevirtual 274, 3), (87, .aload_n 0, 1), (88, .iload_n 1, 1), (89, .invokevirtual 391, 3), (92, .istore 9, 2), (94, .iload 5, 2), (96, .iconst (-1), 1), (97, .if_icmp .eq 10, 3), (100, .iload 9, 2), (102, .iload 6, 2), (104, .if_icmp .le 11, 3), (107, .iload 7, 2), (109, .istore 5, 2), (111, .iload 9, 2), (113, .istore 6, 2), (115, .iinc 7 1, 3), (118, .goto (-105), 3), (121, .iload 5, 2), (123, .iconst (-1), 1), (124, .if_icmp .ne 9, 3), (127, .ldc_w 381, 3), (130, .goto 15, 3), (133, .iload 4, 2), (135, .ifCond .ne 8, 3), (138, .iload 5, 2), (140, .goto 5, 3), (143, .iload 6, 2), (145, .ireturn, 1)]
set_option maxRecDepth 100000 in
theorem dX12_bestCell : mj_pd cX12_bestCell pX12_bestCell := mj_pdB (by decide +kernel)
theorem fX12_bestCell : mj_mf mX12_bestCell := ⟨mj_t7 145 (by decide +kernel) rfl, mj_t1 13 (by decide +kernel) rfl, by decide, by decide, by decide⟩
theorem iX12_bestCell : Cond.instanceMethod yX12_bestCell ∈ mj_GW := mj_t7 144 (by decide +kernel) rfl
theorem vX12_bestCell : Cond.selects (mj_own.getD 12 "") yX12_bestCell yX12_bestCell ∈ mj_GW := mj_p6 10 (by decide +kernel) rfl
def mX12_where : mj_m := (12, false, cX12_where, 3, some .int, yX12_where)
def pX12_where : List (Nat × Instr × Nat) := [(0, .aload_n 0, 1), (1, .iload_n 1, 1), (2, .invokevirtual 306, 3), (5, .ifCond .eq 28, 3), (8, .iload_n 2, 1), (9, .iconst 0, 1), (10, .iconst 1, 1), (11, .invokestatic 214, 3), (14, .ifCond .eq 19, 3), (17, .aload_n 0, 1), (18, .iload_n 1, 1), (19, .iconst 0, 1), (20, .aload_n 0, 1), (21, .getfield 46, 3), (24, .iconst 0, 1), (25, .iaload, 1), (26, .iload_n 2, 1), (27, .invokevirtual 394, 3), (30, .goto 6, 3), (33, .ldc_w 381, 3), (36, .ireturn, 1)]
set_option maxRecDepth 100000 in
theorem dX12_where : mj_pd cX12_where pX12_where := mj_pdB (by decide +kernel)
theorem fX12_where : mj_mf mX12_where := ⟨mj_t7 141 (by decide +kernel) rfl, mj_t1 13 (by decide +kernel) rfl, by decide, by decide, by decide⟩
theorem iX12_where : Cond.instanceMethod yX12_where ∈ mj_GW := mj_t7 139 (by decide +kernel) rfl
theorem vX12_where : Cond.selects (mj_own.getD 12 "") yX12_where yX12_where ∈ mj_GW := mj_t7 140 (by decide +kernel) rfl
def mX12_near : mj_m := (12, false, cX12_near, 3, some .int, yX12_near)
def pX12_near : List (Nat × Instr × Nat) := [(0, .aload_n 0, 1), (1, .iload_n 1, 1), (2, .invokevirtual 306, 3), (5, .ifCond .eq 24, 3), (8, .iload_n 2, 1), (9, .iconst 0, 1), (10, .iconst 1, 1), (11, .invokestatic 214, 3), (14, .ifCond .eq 15, 3), (17, .aload_n 0, 1), (18, .iload_n 1, 1), (19, .iconst 1, 1), (20, .bipush 20, 2), (22, .iload_n 2, 1), (23, .invokevirtual 394, 3), (26, .goto 6, 3), (29, .ldc_w 381, 3), (32, .ireturn, 1)]
set_option maxRecDepth 100000 in
theorem dX12_near : mj_pd cX12_near pX12_near := mj_pdB (by decide +kernel)
theorem fX12_near : mj_mf mX12_near := ⟨mj_t7 153 (by decide +kernel) rfl, mj_t1 13 (by decide +kernel) rfl, by decide, by decide, by decide⟩
theorem iX12_near : Cond.instanceMethod yX12_near ∈ mj_GW := mj_t7 151 (by decide +kernel) rfl
theorem vX12_near : Cond.selects (mj_own.getD 12 "") yX12_near yX12_near ∈ mj_GW := mj_t7 152 (by decide +kernel) rfl
def mX12_hold : mj_m := (12, false, cX12_hold, 8, some .int, yX12_hold)
def pX12_hold : List (Nat × Instr × Nat) := [(0, .aload_n 0, 1), (1, .iload_n 1, 1), (2, .invokevirtual 306, 3), (5, .ifCond .eq 12, 3), (8, .iload_n 2, 1), (9, .iconst 0, 1), (10, .iconst 1, 1), (11, .invokestatic 214, 3), (14, .ifCond .ne 7, 3), (17, .ldc_w 381, 3), (20, .ireturn, 1), (21, .aload_n 0, 1), (22, .invokevirtual 382, 3), (25, .iconst (-1), 1), (26, .istore_n 3, 1), (27, .iconst 0, 1), (28, .istore 4, 2), (30, .aload_n 0, 1), (31, .invokevirtual 323, 3), (34, .istore 5, 2), (36, .iconst 0, 1), (37, .istore 6, 2), (39, .iload 6, 2), (41, .iload 5, 2), (43, .if_icmp .gt 46, 3), (46, .aload_n 0, 1), (47, .iload_n 1, 1), (48, .putfield 55, 3), (51, .aload_n 0, 1), (52, .iload 6, 2), (54, .putfield 343, 3), (57, .aload_n 0, 1), (58, .iload_n 1, 1), (59, .invokevirtual 391, 3), (62, .istore 7, 2), (64, .iload_n 3, 1), (65, .iconst (-1), 1), (66, .if_icmp .eq 10, 3), (69, .iload 7, 2), (71, .iload 4, 2), (73, .if_icmp .le 10, 3), (76, .iload 6, 2), (78, .istore_n 3, 1), (79, .iload 7, 2), (81, .istore 4, 2), (83, .iinc 6 1, 3), (86, .goto (-47), 3), (89, .iload_n 2, 1), (90, .ifCond .ne 7, 3), (93, .iload_n 3, 1), (94, .goto 5, 3), (97, .iload 4, 2), (99, .ireturn, 1)]
set_option maxRecDepth 100000 in
theorem dX12_hold : mj_pd cX12_hold pX12_hold := mj_pdB (by decide +kernel)
theorem fX12_hold : mj_mf mX12_hold := ⟨mj_t7 157 (by decide +kernel) rfl, mj_t1 13 (by decide +kernel) rfl, by decide, by decide, by decide⟩
theorem iX12_hold : Cond.instanceMethod yX12_hold ∈ mj_GW := mj_t7 155 (by decide +kernel) rfl
theorem vX12_hold : Cond.selects (mj_own.getD 12 "") yX12_hold yX12_hold ∈ mj_GW := mj_t7 156 (by decide +kernel) rfl
def mX12_row : mj_m := (12, false, cX12_row, 3, some .int, yX12_row)
def pX12_row : List (Nat × Instr × Nat) := [(0, .aload_n 0, 1), (1, .iload_n 1, 1), (2, .invokevirtual 306, 3), (5, .ifCond .eq 34, 3), (8, .iload_n 2, 1), (9, .iconst 1, 1), (10, .bipush 9, 2), (12, .invokestatic 214, 3), (15, .ifCond .eq 24, 3), (18, .aload_n 0, 1), (19, .aload_n 0, 1), (20, .iload_n 1, 1), (21, .iconst 0, 1), (22, .invokevirtual 283, 3), (25, .aload_n 0, 1), (26, .iload_n 1, 1), (27, .iconst 1, 1), (28, .invokevirtual 283, 3), (31, .iload_n 2, 1), (32, .iadd, 1), (33, .invokevirtual 289, 3), (36, .ifCond .eq 7, 3), (39, .ldc_w 381, 3), (42, .ireturn, 1), (43, .aload_n 0, 1), (44, .invokevirtual 382, 3), (47, .aload_n 0, 1), (48, .iload_n 1, 1), (49, .iconst 1, 1), (50, .aload_n 0, 1), (51, .iload_n 1, 1), (52, .iconst 1, 1), (53, .invokevirtual 283, 3), (56, .iload_n 2, 1), (57, .iadd, 1), (58, .invokevirtual 274, 3), (61, .aload_n 0, 1), (62, .iload_n 1, 1), (63, .invokevirtual 391, 3), (66, .ireturn, 1)]
set_option maxRecDepth 100000 in
theorem dX12_row : mj_pd cX12_row pX12_row := mj_pdB (by decide +kernel)
theorem fX12_row : mj_mf mX12_row := ⟨mj_t7 161 (by decide +kernel) rfl, mj_t1 13 (by decide +kernel) rfl, by decide, by decide, by decide⟩
theorem iX12_row : Cond.instanceMethod yX12_row ∈ mj_GW := mj_t7 159 (by decide +kernel) rfl
theorem vX12_row : Cond.selects (mj_own.getD 12 "") yX12_row yX12_row ∈ mj_GW := mj_t7 160 (by decide +kernel) rfl
def mX12_tides : mj_m := (12, false, cX12_tides, 3, some .int, yX12_tides)
def pX12_tides : List (Nat × Instr × Nat) := [(0, .aload_n 0, 1), (1, .getfield 255, 3), (4, .ifCond .ne 5, 3), (7, .iconst (-1), 1), (8, .ireturn, 1), (9, .iconst 0, 1), (10, .istore_n 1, 1), (11, .aload_n 0, 1), (12, .getfield 52, 3), (15, .bipush 48, 2), (17, .iaload, 1), (18, .iconst 1, 1), (19, .iadd, 1), (20, .istore_n 2, 1), (21, .aload_n 0, 1), (22, .getfield 46, 3), (25, .iconst 3, 1), (26, .iaload, 1), (27, .ifCond .eq 38, 3), (30, .iload_n 2, 1), (31, .aload_n 0, 1), (32, .getfield 46, 3), (35, .iconst 5, 1), (36, .iaload, 1), (37, .if_icmp .gt 28, 3), (40, .iload_n 1, 1), (41, .iload_n 2, 1), (42, .aload_n 0, 1), (43, .getfield 46, 3), (46, .iconst 3, 1), (47, .iaload, 1), (48, .irem, 1), (49, .ifCond .ne 7, 3), (52, .iconst 1, 1), (53, .goto 4, 3), (56, .iconst 0, 1), (57, .iadd, 1), (58, .istore_n 1, 1), (59, .iinc 2 1, 3), (62, .goto (-41), 3), (65, .iload_n 1, 1), (66, .ireturn, 1)]
set_option maxRecDepth 100000 in
theorem dX12_tides : mj_pd cX12_tides pX12_tides := mj_pdB (by decide +kernel)
theorem fX12_tides : mj_mf mX12_tides := ⟨mj_t7 165 (by decide +kernel) rfl, mj_t1 13 (by decide +kernel) rfl, by decide, by decide, by decide⟩
theorem iX12_tides : Cond.instanceMethod yX12_tides ∈ mj_GW := mj_t7 163 (by decide +kernel) rfl
theorem vX12_tides : Cond.selects (mj_own.getD 12 "") yX12_tides yX12_tides ∈ mj_GW := mj_t7 164 (by decide +kernel) rfl
def mX12_thirdOf : mj_m := (12, false, cX12_thirdOf, 2, some .int, yX12_thirdOf)
def pX12_thirdOf : List (Nat × Instr × Nat) := [(0, .aload_n 0, 1), (1, .iload_n 1, 1), (2, .iconst 0, 1), (3, .invokevirtual 283, 3), (6, .iconst 3, 1), (7, .imul, 1), (8, .aload_n 0, 1), (9, .getfield 46, 3), (12, .iconst 0, 1), (13, .iaload, 1), (14, .idiv, 1), (15, .ireturn, 1)]
set_option maxRecDepth 100000 in
theorem dX12_thirdOf : mj_pd cX12_thirdOf pX12_thirdOf := mj_pdB (by decide +kernel)
theorem fX12_thirdOf : mj_mf mX12_thirdOf := ⟨mj_t7 173 (by decide +kernel) rfl, mj_t1 13 (by decide +kernel) rfl, by decide, by decide, by decide⟩
theorem iX12_thirdOf : Cond.instanceMethod yX12_thirdOf ∈ mj_GW := mj_t7 172 (by decide +kernel) rfl
theorem vX12_thirdOf : Cond.selects (mj_own.getD 12 "") yX12_thirdOf yX12_thirdOf ∈ mj_GW := mj_p6 12 (by decide +kernel) rfl
def mX12_divisor : mj_m := (12, false, cX12_divisor, 2, some .int, yX12_divisor)
def pX12_divisor : List (Nat × Instr × Nat) := [(0, .iload_n 1, 1), (1, .ifCond .ne 10, 3), (4, .iload_n 0, 1), (5, .invokestatic 286, 3), (8, .goto 10, 3), (11, .iload_n 1, 1), (12, .iload_n 0, 1), (13, .iload_n 1, 1), (14, .irem, 1), (15, .invokestatic 398, 3), (18, .ireturn, 1)]
set_option maxRecDepth 100000 in
theorem dX12_divisor : mj_pd cX12_divisor pX12_divisor := mj_pdB (by decide +kernel)
theorem fX12_divisor : mj_mf mX12_divisor := ⟨mj_t7 176 (by decide +kernel) rfl, mj_t1 13 (by decide +kernel) rfl, by decide, by decide, by decide⟩
theorem sX12_divisor : Cond.static yX12_divisor ∈ mj_GW := mj_t7 175 (by decide +kernel) rfl
def mX12_sag : mj_m := (12, false, cX12_sag, 9, some .int, yX12_sag)
def pX12_sag : List (Nat × Instr × Nat) := [(0, .iconst 0, 1), (1, .istore_n 2, 1), (2, .iconst 0, 1), (3, .istore_n 3, 1), (4, .iconst 0, 1), (5, .istore 4, 2), (7, .iconst 0, 1), (8, .istore 5, 2), (10, .iload 5, 2), (12, .aload_n 0, 1), (13, .getfield 255, 3), (16, .if_icmp .ge 79, 3), (19, .aload_n 0, 1), (20, .iload 5, 2), (22, .invokevirtual 401, 3), (25, .iconst 1, 1), (26, .if_icmp .ne 7, 3), (29, .iconst 1, 1), (30, .goto 4, 3), (33, .iconst 0, 1), (34, .istore 6, 2), (36, .iload_n 2, 1), (37, .iload 6, 2), (39, .ifCond .eq 13, 3), (42, .aload_n 0, 1), (43, .iload 5, 2), (45, .iconst 1, 1), (46, .invokevirtual 283, 3), (49, .goto 4, 3), (52, .iconst 0, 1), (53, .iadd, 1), (54, .istore_n 2, 1), (55, .iload_n 3, 1), (56, .iload 6, 2), (58, .ifCond .eq 7, 3), (61, .iconst 1, 1), (62, .goto 4, 3), (65, .iconst 0, 1), (66, .iadd, 1), (67, .istore_n 3, 1), (68, .iload 4, 2), (70, .iload 6, 2), (72, .ifCond .eq 7, 3), (75, .iconst 0, 1), (76, .goto 10, 3), (79, .aload_n 0, 1), (80, .iload 5, 2), (82, .iconst 1, 1), (83, .invokevirtual 283, 3), (86, .iadd, 1), (87, .istore 4, 2), (89, .iinc 5 1, 3), (92, .goto (-82), 3), (95, .aload_n 0, 1), (96, .getfield 255, 3), (99, .iload_n 3, 1), (100, .isub, 1), (101, .istore 5, 2), (103, .iload_n 3, 1), (104, .ifCond .eq 17, 3), (107, .iload 5, 2), (109, .ifCond .eq 12, 3), (112, .iload_n 1, 1), (113, .iconst 0, 1), (114, .iconst 1, 1), (115, .invokestatic 214, 3), (118, .ifCond .ne 7, 3), (121, .ldc_w 381, 3), (124, .ireturn, 1), (125, .iload_n 2, 1), (126, .iload 5, 2), (128, .imul, 1), (129, .iload 4, 2), (131, .iload_n 3, 1), (132, .imul, 1), (133, .isub, 1), (134, .istore 6, 2), (136, .iload_n 3, 1), (137, .iload 5, 2), (139, .imul, 1), (140, .istore 7, 2), (142, .iload 7, 2), (144, .iload 6, 2), (146, .invokestatic 398, 3), (149, .istore 8, 2), (151, .iload_n 1, 1), (152, .ifCond .ne 11, 3), (155, .iload 6, 2), (157, .iload 8, 2), (159, .idiv, 1), (160, .goto 8, 3), (163, .iload 7, 2), (165, .iload 8, 2), (167, .idiv, 1), (168, .ireturn, 1)]
set_option maxRecDepth 100000 in
theorem dX12_sag : mj_pd cX12_sag pX12_sag := mj_pdB (by decide +kernel)
theorem fX12_sag : mj_mf mX12_sag := ⟨mj_t7 169 (by decide +kernel) rfl, mj_t1 13 (by decide +kernel) rfl, by decide, by decide, by decide⟩
theorem iX12_sag : Cond.instanceMethod yX12_sag ∈ mj_GW := mj_t7 167 (by decide +kernel) rfl
theorem vX12_sag : Cond.selects (mj_own.getD 12 "") yX12_sag yX12_sag ∈ mj_GW := mj_t7 168 (by decide +kernel) rfl
def mX12_heap : mj_m := (12, false, cX12_heap, 4, some .int, yX12_heap)
def pX12_heap : List (Nat × Instr × Nat) := [(0, .aload_n 0, 1), (1, .getfield 255, 3), (4, .ifCond .eq 12, 3), (7, .iload_n 1, 1), (8, .iconst 0, 1), (9, .iconst 2, 1), (10, .invokestatic 214, 3), (13, .ifCond .ne 5, 3), (16, .iconst (-1), 1), (17, .ireturn, 1), (18, .iconst 0, 1), (19, .istore_n 2, 1), (20, .iconst 0, 1), (21, .istore_n 3, 1), (22, .iload_n 3, 1), (23, .aload_n 0, 1), (24, .getfield 255, 3), (27, .if_icmp .ge 26, 3), (30, .iload_n 2, 1), (31, .aload_n 0, 1), (32, .iload_n 3, 1), (33, .invokevirtual 401, 3), (36, .iload_n 1, 1), (37, .if_icmp .ne 7, 3), (40, .iconst 1, 1), (41, .goto 4, 3), (44, .iconst 0, 1), (45, .iadd, 1), (46, .istore_n 2, 1), (47, .iinc 3 1, 3), (50, .goto (-28), 3), (53, .iload_n 2, 1), (54, .ireturn, 1)]
set_option maxRecDepth 100000 in
theorem dX12_heap : mj_pd cX12_heap pX12_heap := mj_pdB (by decide +kernel)
theorem fX12_heap : mj_mf mX12_heap := ⟨mj_t7 180 (by decide +kernel) rfl, mj_t1 13 (by decide +kernel) rfl, by decide, by decide, by decide⟩
theorem iX12_heap : Cond.instanceMethod yX12_heap ∈ mj_GW := mj_t7 178 (by decide +kernel) rfl
theorem vX12_heap : Cond.selects (mj_own.getD 12 "") yX12_heap yX12_heap ∈ mj_GW := mj_t7 179 (by decide +kernel) rfl
def mX12_hole : mj_m := (12, false, cX12_hole, 3, some .int, yX12_hole)
def pX12_hole : List (Nat × Instr × Nat) := [(0, .aload_n 0, 1), (1, .iload_n 1, 1), (2, .invokevirtual 306, 3), (5, .ifCond .ne 5, 3), (8, .iconst (-1), 1), (9, .ireturn, 1), (10, .iconst 0, 1), (11, .istore_n 2, 1), (12, .aload_n 0, 1), (13, .iload_n 1, 1), (14, .iconst 0, 1), (15, .invokevirtual 283, 3), (18, .iload_n 2, 1), (19, .isub, 1), (20, .ifCond .le 32, 3), (23, .aload_n 0, 1), (24, .aload_n 0, 1), (25, .iload_n 1, 1), (26, .iconst 0, 1), (27, .invokevirtual 283, 3), (30, .iload_n 2, 1), (31, .isub, 1), (32, .iconst 1, 1), (33, .isub, 1), (34, .aload_n 0, 1), (35, .iload_n 1, 1), (36, .iconst 1, 1), (37, .invokevirtual 283, 3), (40, .invokevirtual 289, 3), (43, .ifCond .ne 9, 3), (46, .iinc 2 1, 3), (49, .goto (-37), 3), (52, .iload_n 2, 1), (53, .ireturn, 1)]
set_option maxRecDepth 100000 in
theorem dX12_hole : mj_pd cX12_hole pX12_hole := mj_pdB (by decide +kernel)
theorem fX12_hole : mj_mf mX12_hole := ⟨mj_t7 184 (by decide +kernel) rfl, mj_t1 13 (by decide +kernel) rfl, by decide, by decide, by decide⟩
theorem iX12_hole : Cond.instanceMethod yX12_hole ∈ mj_GW := mj_t7 182 (by decide +kernel) rfl
theorem vX12_hole : Cond.selects (mj_own.getD 12 "") yX12_hole yX12_hole ∈ mj_GW := mj_t7 183 (by decide +kernel) rfl
def mX12_keeps : mj_m := (12, false, cX12_keeps, 4, some .int, yX12_keeps)
def pX12_keeps : List (Nat × Instr × Nat) := [(0, .aload_n 0, 1), (1, .iload_n 1, 1), (2, .invokevirtual 306, 3), (5, .ifCond .ne 5, 3), (8, .iconst (-1), 1), (9, .ireturn, 1), (10, .aload_n 0, 1), (11, .invokevirtual 382, 3), (14, .iconst 0, 1), (15, .istore_n 2, 1), (16, .aload_n 0, 1), (17, .iload_n 1, 1), (18, .invokevirtual 326, 3), (21, .ifCond .ne 20, 3), (24, .aload_n 0, 1), (25, .invokevirtual 323, 3), (28, .ifCond .le 13, 3), (31, .aload_n 0, 1), (32, .invokevirtual 367, 3), (35, .iinc 2 1, 3), (38, .goto (-22), 3), (41, .aload_n 0, 1), (42, .iload_n 1, 1), (43, .invokevirtual 326, 3), (46, .ifCond .eq 7, 3), (49, .iload_n 2, 1), (50, .goto 4, 3), (53, .iconst (-1), 1), (54, .istore_n 3, 1), (55, .aload_n 0, 1), (56, .invokevirtual 388, 3), (59, .iload_n 3, 1), (60, .ireturn, 1)]
set_option maxRecDepth 100000 in
theorem dX12_keeps : mj_pd cX12_keeps pX12_keeps := mj_pdB (by decide +kernel)
theorem fX12_keeps : mj_mf mX12_keeps := ⟨mj_t7 188 (by decide +kernel) rfl, mj_t1 13 (by decide +kernel) rfl, by decide, by decide, by decide⟩
theorem iX12_keeps : Cond.instanceMethod yX12_keeps ∈ mj_GW := mj_t7 186 (by decide +kernel) rfl
theorem vX12_keeps : Cond.selects (mj_own.getD 12 "") yX12_keeps yX12_keeps ∈ mj_GW := mj_t7 187 (by decide +kernel) rfl
def mX12_which : mj_m := (12, false, cX12_which, 5, some .int, yX12_which)
def pX12_which : List (Nat × Instr × Nat) := [(0, .aload_n 0, 1), (1, .getfield 255, 3), (4, .ifCond .eq 12, 3), (7, .iload_n 1, 1), (8, .iconst 0, 1), (9, .iconst 2, 1), (10, .invokestatic 214, 3), (13, .ifCond .ne 5, 3), (16, .iconst (-1), 1), (17, .ireturn, 1), (18, .iconst 0, 1), (19, .istore_n 2, 1), (20, .iconst 0, 1), (21, .istore_n 3, 1), (22, .iload_n 3, 1), (23, .aload_n 0, 1), (24, .getfield 255, 3), (27, .if_icmp .ge 89, 3), (30, .iload_n 1, 1), (31, .ifCond .ne 19, 3), (34, .aload_n 0, 1), (35, .iload_n 3, 1), (36, .invokevirtual 297, 3), (39, .ifCond .ne 7, 3), (42, .iconst 1, 1), (43, .goto 50, 3), (46, .iconst 0, 1), (47, .goto 46, 3), (50, .iload_n 1, 1), (51, .iconst 1, 1), (52, .if_icmp .ne 20, 3), (55, .aload_n 0, 1), (56, .iload_n 3, 1), (57, .iconst 1, 1), (58, .invokevirtual 283, 3), (61, .ifCond .ge 7, 3), (64, .iconst 1, 1), (65, .goto 28, 3), (68, .iconst 0, 1), (69, .goto 24, 3), (72, .aload_n 0, 1), (73, .iload_n 3, 1), (74, .aload_n 0, 1), (75, .getfield 46, 3), (78, .bipush 6, 2), (80, .iaload, 1), (81, .invokevirtual 292, 3), (84, .iconst 2, 1), (85, .if_icmp .ne 7, 3), (88, .iconst 1, 1), (89, .goto 4, 3), (92, .iconst 0, 1), (93, .istore 4, 2), (95, .iload_n 2, 1), (96, .iload 4, 2), (98, .ifCond .eq 9, 3), (101, .iconst 1, 1), (102, .iload_n 3, 1), (103, .ishl, 1), (104, .goto 4, 3), (107, .iconst 0, 1), (108, .ior, 1), (109, .istore_n 2, 1), (110, .iinc 3 1, 3), (113, .goto (-91), 3), (116, .iload_n 2, 1), (117, .ireturn, 1)]
set_option maxRecDepth 100000 in
theorem dX12_which : mj_pd cX12_which pX12_which := mj_pdB (by decide +kernel)
theorem fX12_which : mj_mf mX12_which := ⟨mj_t7 192 (by decide +kernel) rfl, mj_t1 13 (by decide +kernel) rfl, by decide, by decide, by decide⟩
theorem iX12_which : Cond.instanceMethod yX12_which ∈ mj_GW := mj_t7 190 (by decide +kernel) rfl
theorem vX12_which : Cond.selects (mj_own.getD 12 "") yX12_which yX12_which ∈ mj_GW := mj_t7 191 (by decide +kernel) rfl
def mX12_thirdWorth : mj_m := (12, false, cX12_thirdWorth, 7, some .int, yX12_thirdWorth)
def pX12_thirdWorth : List (Nat × Instr × Nat) := [(0, .aload_n 0, 1), (1, .getfield 46, 3), (4, .iconst 2, 1), (5, .iaload, 1), (6, .ifCond .ne 9, 3), (9, .iconst 2, 1), (10, .iload_n 2, 1), (11, .isub, 1), (12, .goto 4, 3), (15, .iload_n 2, 1), (16, .istore 4, 2), (18, .iconst 5, 1), (19, .iload_n 3, 1), (20, .imul, 1), (21, .iload 4, 2), (23, .imul, 1), (24, .iconst 2, 1), (25, .idiv, 1), (26, .istore 5, 2), (28, .iconst 0, 1), (29, .istore 6, 2), (31, .iload 6, 2), (33, .aload_n 0, 1), (34, .getfield 255, 3), (37, .if_icmp .ge 36, 3), (40, .iload 5, 2), (42, .iload 6, 2), (44, .iload_n 1, 1), (45, .if_icmp .eq 18, 3), (48, .aload_n 0, 1), (49, .getfield 75, 3), (52, .iload 6, 2), (54, .iaload, 1), (55, .iload_n 2, 1), (56, .if_icmp .ne 7, 3), (59, .iconst 2, 1), (60, .goto 4, 3), (63, .iconst 0, 1), (64, .isub, 1), (65, .istore 5, 2), (67, .iinc 6 1, 3), (70, .goto (-39), 3), (73, .iload 5, 2), (75, .ireturn, 1)]
set_option maxRecDepth 100000 in
theorem dX12_thirdWorth : mj_pd cX12_thirdWorth pX12_thirdWorth := mj_pdB (by decide +kernel)
theorem fX12_thirdWorth : mj_mf mX12_thirdWorth := ⟨mj_t7 212 (by decide +kernel) rfl, mj_t1 13 (by decide +kernel) rfl, by decide, by decide, by decide⟩
theorem iX12_thirdWorth : Cond.instanceMethod yX12_thirdWorth ∈ mj_GW := mj_t7 211 (by decide +kernel) rfl
theorem vX12_thirdWorth : Cond.selects (mj_own.getD 12 "") yX12_thirdWorth yX12_thirdWorth ∈ mj_GW := mj_p7 0 (by decide +kernel) rfl
def mX12_layThirds : mj_m := (12, false, cX12_layThirds, 4, none, yX12_layThirds)
def pX12_layThirds : List (Nat × Instr × Nat) := [(0, .iload_n 1, 1), (1, .istore_n 2, 1), (2, .aload_n 0, 1), (3, .getfield 255, 3), (6, .iconst 1, 1), (7, .isub, 1), (8, .istore_n 3, 1), (9, .iload_n 3, 1), (10, .ifCond .lt 22, 3), (13, .aload_n 0, 1), (14, .getfield 75, 3), (17, .iload_n 3, 1), (18, .iload_n 2, 1), (19, .iconst 3, 1), (20, .irem, 1), (21, .iastore, 1), (22, .iload_n 2, 1), (23, .iconst 3, 1), (24, .idiv, 1), (25, .istore_n 2, 1), (26, .iinc 3 (-1), 3), (29, .goto (-20), 3), (32, .return_, 1)]
set_option maxRecDepth 100000 in
theorem dX12_layThirds : mj_pd cX12_layThirds pX12_layThirds := mj_pdB (by decide +kernel)
theorem fX12_layThirds : mj_mf mX12_layThirds := ⟨mj_t7 204 (by decide +kernel) rfl, mj_t1 13 (by decide +kernel) rfl, by decide, by decide, by decide⟩
theorem iX12_layThirds : Cond.instanceMethod yX12_layThirds ∈ mj_GW := mj_t7 203 (by decide +kernel) rfl
theorem vX12_layThirds : Cond.selects (mj_own.getD 12 "") yX12_layThirds yX12_layThirds ∈ mj_GW := mj_p6 14 (by decide +kernel) rfl
def mX12_isRest : mj_m := (12, false, cX12_isRest, 4, some .boolean, yX12_isRest)
def pX12_isRest : List (Nat × Instr × Nat) := [(0, .iconst 0, 1), (1, .istore_n 2, 1), (2, .iload_n 2, 1), (3, .aload_n 0, 1), (4, .getfield 255, 3), (7, .if_icmp .ge 46, 3), (10, .iconst 0, 1), (11, .istore_n 3, 1), (12, .iload_n 3, 1), (13, .iconst 3, 1), (14, .if_icmp .ge 33, 3), (17, .aload_n 0, 1), (18, .iload_n 2, 1), (19, .iload_n 3, 1), (20, .iload_n 1, 1), (21, .invokevirtual 404, 3), (24, .aload_n 0, 1), (25, .iload_n 2, 1), (26, .aload_n 0, 1), (27, .getfield 75, 3), (30, .iload_n 2, 1), (31, .iaload, 1), (32, .iload_n 1, 1), (33, .invokevirtual 404, 3), (36, .if_icmp .le 5, 3), (39, .iconst 0, 1), (40, .ireturn, 1), (41, .iinc 3 1, 3), (44, .goto (-32), 3), (47, .iinc 2 1, 3), (50, .goto (-48), 3), (53, .iconst 1, 1), (54, .ireturn, 1)]
set_option maxRecDepth 100000 in
theorem dX12_isRest : mj_pd cX12_isRest pX12_isRest := mj_pdB (by decide +kernel)
theorem fX12_isRest : mj_mf mX12_isRest := ⟨mj_t7 208 (by decide +kernel) rfl, mj_t1 13 (by decide +kernel) rfl, by decide, by decide, by decide⟩
theorem iX12_isRest : Cond.instanceMethod yX12_isRest ∈ mj_GW := mj_t7 207 (by decide +kernel) rfl
theorem vX12_isRest : Cond.selects (mj_own.getD 12 "") yX12_isRest yX12_isRest ∈ mj_GW := mj_p6 15 (by decide +kernel) rfl
def mX12_rows : mj_m := (12, false, cX12_rows, 3, some .int, yX12_rows)
def pX12_rows : List (Nat × Instr × Nat) := [(0, .iconst 1, 1), (1, .istore_n 1, 1), (2, .iconst 0, 1), (3, .istore_n 2, 1), (4, .iload_n 2, 1), (5, .aload_n 0, 1), (6, .getfield 255, 3), (9, .if_icmp .ge 13, 3), (12, .iload_n 1, 1), (13, .iconst 3, 1), (14, .imul, 1), (15, .istore_n 1, 1), (16, .iinc 2 1, 3), (19, .goto (-15), 3), (22, .iload_n 1, 1), (23, .ireturn, 1)]
set_option maxRecDepth 100000 in
theorem dX12_rows : mj_pd cX12_rows pX12_rows := mj_pdB (by decide +kernel)
theorem fX12_rows : mj_mf mX12_rows := ⟨mj_t7 200 (by decide +kernel) rfl, mj_t1 13 (by decide +kernel) rfl, by decide, by decide, by decide⟩
theorem iX12_rows : Cond.instanceMethod yX12_rows ∈ mj_GW := mj_t7 199 (by decide +kernel) rfl
theorem vX12_rows : Cond.selects (mj_own.getD 12 "") yX12_rows yX12_rows ∈ mj_GW := mj_p6 13 (by decide +kernel) rfl
def mX12_rests : mj_m := (12, false, cX12_rests, 7, some .int, yX12_rests)
def pX12_rests : List (Nat × Instr × Nat) := [(0, .aload_n 0, 1), (1, .getfield 255, 3), (4, .ifCond .ne 5, 3), (7, .iconst (-1), 1), (8, .ireturn, 1), (9, .aload_n 0, 1), (10, .getfield 255, 3), (13, .iconst 5, 1), (14, .if_icmp .le 7, 3), (17, .ldc_w 381, 3), (20, .ireturn, 1), (21, .iload_n 1, 1), (22, .iconst (-1), 1), (23, .if_icmp .ge 5, 3), (26, .iconst (-1), 1), (27, .ireturn, 1), (28, .aload_n 0, 1), (29, .invokevirtual 407, 3), (32, .istore_n 2, 1), (33, .iconst 0, 1), (34, .istore_n 3, 1), (35, .iconst 0, 1), (36, .istore 4, 2), (38, .iload 4, 2), (40, .iload_n 2, 1), (41, .if_icmp .ge 75, 3), (44, .aload_n 0, 1), (45, .iload 4, 2), (47, .invokevirtual 410, 3), (50, .aload_n 0, 1), (51, .aload_n 0, 1), (52, .getfield 46, 3), (55, .iconst 1, 1), (56, .iaload, 1), (57, .invokevirtual 413, 3), (60, .ifCond .eq 50, 3), (63, .iload_n 3, 1), (64, .iload_n 1, 1), (65, .if_icmp .ne 42, 3), (68, .iconst 0, 1), (69, .istore 5, 2), (71, .iconst 0, 1), (72, .istore 6, 2), (74, .iload 6, 2), (76, .aload_n 0, 1), (77, .getfield 255, 3), (80, .if_icmp .ge 24, 3), (83, .bipush 10, 2), (85, .iload 5, 2), (87, .imul, 1), (88, .aload_n 0, 1), (89, .getfield 75, 3), (92, .iload 6, 2), (94, .iaload, 1), (95, .iadd, 1), (96, .istore 5, 2), (98, .iinc 6 1, 3), (101, .goto (-27), 3), (104, .iload 5, 2), (106, .ireturn, 1), (107, .iinc 3 1, 3), (110, .iinc 4 1, 3), (113, .goto (-75), 3), (116, .iload_n 1, 1), (117, .iconst (-1), 1), (118, .if_icmp .ne 7, 3), (121, .iload_n 3, 1), (122, .goto 4, 3), (125, .iconst (-1), 1), (126, .ireturn, 1)]
set_option maxRecDepth 100000 in
theorem dX12_rests : mj_pd cX12_rests pX12_rests := mj_pdB (by decide +kernel)
theorem fX12_rests : mj_mf mX12_rests := ⟨mj_t7 196 (by decide +kernel) rfl, mj_t1 13 (by decide +kernel) rfl, by decide, by decide, by decide⟩
theorem iX12_rests : Cond.instanceMethod yX12_rests ∈ mj_GW := mj_t7 194 (by decide +kernel) rfl
theorem vX12_rests : Cond.selects (mj_own.getD 12 "") yX12_rests yX12_rests ∈ mj_GW := mj_t7 195 (by decide +kernel) rfl
def mX12_fullest : mj_m := (12, false, cX12_fullest, 8, some .int, yX12_fullest)
def pX12_fullest : List (Nat × Instr × Nat) := [(0, .aload_n 0, 1), (1, .invokevirtual 407, 3), (4, .istore_n 2, 1), (5, .iconst 0, 1), (6, .istore_n 3, 1), (7, .iload_n 3, 1), (8, .iload_n 2, 1), (9, .if_icmp .ge 95, 3), (12, .aload_n 0, 1), (13, .iload_n 3, 1), (14, .invokevirtual 410, 3), (17, .aload_n 0, 1), (18, .iload_n 1, 1), (19, .invokevirtual 413, 3), (22, .ifCond .eq 76, 3), (25, .iconst 0, 1), (26, .istore 4, 2), (28, .iconst 0, 1), (29, .istore 5, 2), (31, .iload 5, 2), (33, .iconst 3, 1), (34, .if_icmp .ge 61, 3), (37, .iconst 0, 1), (38, .istore 6, 2), (40, .iconst 0, 1), (41, .istore 7, 2), (43, .iload 7, 2), (45, .aload_n 0, 1), (46, .getfield 255, 3), (49, .if_icmp .ge 31, 3), (52, .iload 6, 2), (54, .aload_n 0, 1), (55, .getfield 75, 3), (58, .iload 7, 2), (60, .iaload, 1), (61, .iload 5, 2), (63, .if_icmp .ne 7, 3), (66, .iconst 1, 1), (67, .goto 4, 3), (70, .iconst 0, 1), (71, .iadd, 1), (72, .istore 6, 2), (74, .iinc 7 1, 3), (77, .goto (-34), 3), (80, .iload 4, 2), (82, .iload 6, 2), (84, .invokestatic 295, 3), (87, .istore 4, 2), (89, .iinc 5 1, 3), (92, .goto (-61), 3), (95, .iload 4, 2), (97, .ireturn, 1), (98, .iinc 3 1, 3), (101, .goto (-94), 3), (104, .iconst (-1), 1), (105, .ireturn, 1)]
set_option maxRecDepth 100000 in
theorem dX12_fullest : mj_pd cX12_fullest pX12_fullest := mj_pdB (by decide +kernel)
theorem fX12_fullest : mj_mf mX12_fullest := ⟨mj_t7 220 (by decide +kernel) rfl, mj_t1 13 (by decide +kernel) rfl, by decide, by decide, by decide⟩
theorem iX12_fullest : Cond.instanceMethod yX12_fullest ∈ mj_GW := mj_t7 219 (by decide +kernel) rfl
theorem vX12_fullest : Cond.selects (mj_own.getD 12 "") yX12_fullest yX12_fullest ∈ mj_GW := mj_p7 1 (by decide +kernel) rfl
def mX12_spread : mj_m := (12, false, cX12_spread, 6, some .int, yX12_spread)
def pX12_spread : List (Nat × Instr × Nat) := [(0, .aload_n 0, 1), (1, .getfield 255, 3), (4, .ifCond .eq 12, 3), (7, .iload_n 1, 1), (8, .iconst 0, 1), (9, .iconst 1, 1), (10, .invokestatic 214, 3), (13, .ifCond .ne 5, 3), (16, .iconst (-1), 1), (17, .ireturn, 1), (18, .aload_n 0, 1), (19, .getfield 255, 3), (22, .iconst 5, 1), (23, .if_icmp .le 7, 3), (26, .ldc_w 381, 3), (29, .ireturn, 1), (30, .iconst (-1), 1), (31, .istore_n 2, 1), (32, .iconst 0, 1), (33, .istore_n 3, 1), (34, .iconst 0, 1), (35, .istore 4, 2), (37, .iload 4, 2), (39, .bipush 9, 2), (41, .if_icmp .gt 40, 3), (44, .aload_n 0, 1), (45, .iload 4, 2), (47, .invokevirtual 416, 3), (50, .istore 5, 2), (52, .iload 5, 2), (54, .iconst (-1), 1), (55, .if_icmp .eq 20, 3), (58, .iload_n 2, 1), (59, .iconst (-1), 1), (60, .if_icmp .eq 9, 3), (63, .iload 5, 2), (65, .iload_n 3, 1), (66, .if_icmp .ge 9, 3), (69, .iload 4, 2), (71, .istore_n 2, 1), (72, .iload 5, 2), (74, .istore_n 3, 1), (75, .iinc 4 1, 3), (78, .goto (-41), 3), (81, .iload_n 1, 1), (82, .ifCond .ne 7, 3), (85, .iload_n 2, 1), (86, .goto 13, 3), (89, .iload_n 2, 1), (90, .iconst (-1), 1), (91, .if_icmp .ne 7, 3), (94, .iconst (-1), 1), (95, .goto 4, 3), (98, .iload_n 3, 1), (99, .ireturn, 1)]
set_option maxRecDepth 100000 in
theorem dX12_spread : mj_pd cX12_spread pX12_spread := mj_pdB (by decide +kernel)
theorem fX12_spread : mj_mf mX12_spread := ⟨mj_t7 216 (by decide +kernel) rfl, mj_t1 13 (by decide +kernel) rfl, by decide, by decide, by decide⟩
theorem iX12_spread : Cond.instanceMethod yX12_spread ∈ mj_GW := mj_t7 214 (by decide +kernel) rfl
theorem vX12_spread : Cond.selects (mj_own.getD 12 "") yX12_spread yX12_spread ∈ mj_GW := mj_t7 215 (by decide +kernel) rfl
def mX12_duelOf : mj_m := (12, false, cX12_duelOf, 6, some .int, yX12_duelOf)
def pX12_duelOf : List (Nat × Instr × Nat) := [(0, .aload_n 0, 1), (1, .invokevirtual 382, 3), (4, .aload_n 0, 1), (5, .getfield 255, 3), (8, .istore_n 3, 1), (9, .iconst 0, 1), (10, .istore 4, 2), (12, .iload 4, 2), (14, .bipush 7, 2), (16, .if_icmp .ge 56, 3), (19, .aload_n 0, 1), (20, .getfield 78, 3), (23, .iload 4, 2), (25, .aload_n 0, 1), (26, .getfield 46, 3), (29, .iload 4, 2), (31, .iaload, 1), (32, .iastore, 1), (33, .aload_n 0, 1), (34, .getfield 46, 3), (37, .iload 4, 2), (39, .iload 4, 2), (41, .iconst 5, 1), (42, .if_icmp .ne 13, 3), (45, .aload_n 0, 1), (46, .getfield 46, 3), (49, .iload 4, 2), (51, .iaload, 1), (52, .goto 13, 3), (55, .iload 4, 2), (57, .ifCond .ne 7, 3), (60, .iconst 2, 1), (61, .goto 4, 3), (64, .iconst 0, 1), (65, .iastore, 1), (66, .iinc 4 1, 3), (69, .goto (-57), 3), (72, .iconst 0, 1), (73, .istore 4, 2), (75, .iload 4, 2), (77, .bipush 12, 2), (79, .if_icmp .ge 23, 3), (82, .aload_n 0, 1), (83, .getfield 81, 3), (86, .iload 4, 2), (88, .aload_n 0, 1), (89, .getfield 49, 3), (92, .iload 4, 2), (94, .iaload, 1), (95, .iastore, 1), (96, .iinc 4 1, 3), (99, .goto (-24), 3), (102, .aload_n 0, 1), (103, .iconst 2, 1), (104, .putfield 255, 3), (107, .iconst 0, 1), (108, .istore 4, 2), (110, .iload 4, 2), (112, .iconst 2, 1), (113, .if_icmp .ge 98, 3), (116, .aload_n 0, 1), (117, .getfield 49, 3), (120, .bipush 6, 2), (122, .iload 4, 2), (124, .imul, 1), (125, .iconst 0, 1), (126, .iadd, 1), (127, .iload 4, 2), (129, .iastore, 1), (130, .aload_n 0, 1), (131, .getfield 49, 3), (134, .bipush 6, 2), (136, .iload 4, 2), (138, .imul, 1), (139, .iconst 1, 1), (140, .iadd, 1), (141, .bipush 9, 2), (143, .iastore, 1), (144, .aload_n 0, 1), (145, .getfield 49, 3), (148, .bipush 6, 2), (150, .iload 4, 2), (152, .imul, 1), (153, .iconst 2, 1), (154, .iadd, 1), (155, .iconst 0, 1), (156, .iastore, 1), (157, .aload_n 0, 1), (158, .getfield 49, 3), (161, .bipush 6, 2), (163, .iload 4, 2), (165, .imul, 1), (166, .iconst 3, 1), (167, .iadd, 1), (168, .iconst 2, 1), (169, .iastore, 1), (170, .aload_n 0, 1), (171, .getfield 49, 3), (174, .bipush 6, 2), (176, .iload 4, 2), (178, .imul, 1), (179, .iconst 4, 1), (180, .iadd, 1), (181, .iconst 5, 1), (182, .iastore, 1), (183, .aload_n 0, 1), (184, .getfield 49, 3), (187, .bipush 6, 2), (189, .iload 4, 2), (191, .imul, 1), (192, .iconst 5, 1), (193, .iadd, 1), (194, .iload 4, 2), (196, .ifCond .ne 7, 3), (199, .iload_n 1, 1), (200, .goto 4, 3), (203, .iload_n 2, 1), (204, .iastore, 1), (205, .iinc 4 1, 3), (208, .goto (-98), 3), (211, .aload_n 0, 1), (212, .invokevirtual 258, 3), (215, .aload_n 0, 1), (216, .invokevirtual 385, 3), (219, .aload_n 0, 1), (220, .iconst 0, 1), (221, .invokevirtual 312, 3), (224, .aload_n 0, 1), (225, .iconst 1, 1), (226, .invokevirtual 312, 3), (229, .isub, 1), (230, .istore 4, 2), (232, .aload_n 0, 1), (233, .iload_n 3, 1), (234, .putfield 255, 3), (237, .iconst 0, 1), (238, .istore 5, 2), (240, .iload 5, 2), (242, .bipush 7, 2), (244, .if_icmp .ge 23, 3), (247, .aload_n 0, 1), (248, .getfield 46, 3), (251, .iload 5, 2), (253, .aload_n 0, 1), (254, .getfield 78, 3), (257, .iload 5, 2), (259, .iaload, 1), (260, .iastore, 1), (261, .iinc 5 1, 3), (264, .goto (-24), 3), (267, .iconst 0, 1), (268, .istore 5, 2), (270, .iload 5, 2), (272, .bipush 12, 2), (274, .if_icmp .ge 23, 3), (277, .aload_n 0, 1), (278, .getfield 49, 3), (281, .iload 5, 2), (283, .aload_n 0, 1), (284, .getfield 81, 3), (287, .iload 5, 2), (289, .iaload, 1), (290, .iastore, 1), (291, .iinc 5 1, 3), (294, .goto (-24), 3), (297, .aload_n 0, 1), (298, .invokevirtual 388, 3), (301, .iload 4, 2), (303, .ireturn, 1)]
set_option maxRecDepth 100000 in
theorem dX12_duelOf : mj_pd cX12_duelOf pX12_duelOf := mj_pdB (by decide +kernel)
theorem fX12_duelOf : mj_mf mX12_duelOf := ⟨mj_t7 232 (by decide +kernel) rfl, mj_t1 13 (by decide +kernel) rfl, by decide, by decide, by decide⟩
theorem iX12_duelOf : Cond.instanceMethod yX12_duelOf ∈ mj_GW := mj_t7 231 (by decide +kernel) rfl
theorem vX12_duelOf : Cond.selects (mj_own.getD 12 "") yX12_duelOf yX12_duelOf ∈ mj_GW := mj_p7 3 (by decide +kernel) rfl
def mX12_isLaw : mj_m := (12, false, cX12_isLaw, 2, some .boolean, yX12_isLaw)
def pX12_isLaw : List (Nat × Instr × Nat) := [(0, .aload_n 0, 1), (1, .getfield 255, 3), (4, .ifCond .le 21, 3), (7, .iload_n 1, 1), (8, .iconst 0, 1), (9, .aload_n 0, 1), (10, .getfield 280, 3), (13, .iconst 1, 1), (14, .isub, 1), (15, .invokestatic 214, 3), (18, .ifCond .eq 7, 3), (21, .iconst 1, 1), (22, .goto 4, 3), (25, .iconst 0, 1), (26, .ireturn, 1)]
set_option maxRecDepth 100000 in
theorem dX12_isLaw : mj_pd cX12_isLaw pX12_isLaw := mj_pdB (by decide +kernel)
theorem fX12_isLaw : mj_mf mX12_isLaw := ⟨mj_t7 228 (by decide +kernel) rfl, mj_t1 13 (by decide +kernel) rfl, by decide, by decide, by decide⟩
theorem iX12_isLaw : Cond.instanceMethod yX12_isLaw ∈ mj_GW := mj_t7 227 (by decide +kernel) rfl
theorem vX12_isLaw : Cond.selects (mj_own.getD 12 "") yX12_isLaw yX12_isLaw ∈ mj_GW := mj_p7 2 (by decide +kernel) rfl
def mX12_duel : mj_m := (12, false, cX12_duel, 3, some .int, yX12_duel)
def pX12_duel : List (Nat × Instr × Nat) := [(0, .aload_n 0, 1), (1, .iload_n 1, 1), (2, .invokevirtual 419, 3), (5, .ifCond .eq 20, 3), (8, .aload_n 0, 1), (9, .iload_n 2, 1), (10, .invokevirtual 419, 3), (13, .ifCond .eq 12, 3), (16, .aload_n 0, 1), (17, .iload_n 1, 1), (18, .iload_n 2, 1), (19, .invokevirtual 422, 3), (22, .goto 6, 3), (25, .ldc_w 381, 3), (28, .ireturn, 1)]
set_option maxRecDepth 100000 in
theorem dX12_duel : mj_pd cX12_duel pX12_duel := mj_pdB (by decide +kernel)
theorem fX12_duel : mj_mf mX12_duel := ⟨mj_t7 224 (by decide +kernel) rfl, mj_t1 13 (by decide +kernel) rfl, by decide, by decide, by decide⟩
theorem iX12_duel : Cond.instanceMethod yX12_duel ∈ mj_GW := mj_t7 222 (by decide +kernel) rfl
theorem vX12_duel : Cond.selects (mj_own.getD 12 "") yX12_duel yX12_duel ∈ mj_GW := mj_t7 223 (by decide +kernel) rfl
def mX12_reply : mj_m := (12, false, cX12_reply, 4, some .int, yX12_reply)
def pX12_reply : List (Nat × Instr × Nat) := [(0, .aload_n 0, 1), (1, .iload_n 1, 1), (2, .invokevirtual 419, 3), (5, .ifCond .ne 5, 3), (8, .iconst (-1), 1), (9, .ireturn, 1), (10, .iconst 0, 1), (11, .istore_n 2, 1), (12, .iconst 1, 1), (13, .istore_n 3, 1), (14, .iload_n 3, 1), (15, .aload_n 0, 1), (16, .getfield 280, 3), (19, .if_icmp .ge 30, 3), (22, .aload_n 0, 1), (23, .iload_n 3, 1), (24, .iload_n 1, 1), (25, .invokevirtual 422, 3), (28, .aload_n 0, 1), (29, .iload_n 2, 1), (30, .iload_n 1, 1), (31, .invokevirtual 422, 3), (34, .if_icmp .le 7, 3), (37, .iload_n 3, 1), (38, .goto 4, 3), (41, .iload_n 2, 1), (42, .istore_n 2, 1), (43, .iinc 3 1, 3), (46, .goto (-32), 3), (49, .iload_n 2, 1), (50, .ireturn, 1)]
set_option maxRecDepth 100000 in
theorem dX12_reply : mj_pd cX12_reply pX12_reply := mj_pdB (by decide +kernel)
theorem fX12_reply : mj_mf mX12_reply := ⟨mj_t7 236 (by decide +kernel) rfl, mj_t1 13 (by decide +kernel) rfl, by decide, by decide, by decide⟩
theorem iX12_reply : Cond.instanceMethod yX12_reply ∈ mj_GW := mj_t7 234 (by decide +kernel) rfl
theorem vX12_reply : Cond.selects (mj_own.getD 12 "") yX12_reply yX12_reply ∈ mj_GW := mj_t7 235 (by decide +kernel) rfl
def mX12_sumOfDuels : mj_m := (12, false, cX12_sumOfDuels, 4, some .int, yX12_sumOfDuels)
def pX12_sumOfDuels : List (Nat × Instr × Nat) := [(0, .iconst 0, 1), (1, .istore_n 2, 1), (2, .iconst 0, 1), (3, .istore_n 3, 1), (4, .iload_n 3, 1), (5, .aload_n 0, 1), (6, .getfield 280, 3), (9, .if_icmp .ge 18, 3), (12, .iload_n 2, 1), (13, .aload_n 0, 1), (14, .iload_n 1, 1), (15, .iload_n 3, 1), (16, .invokevirtual 422, 3), (19, .iadd, 1), (20, .istore_n 2, 1), (21, .iinc 3 1, 3), (24, .goto (-20), 3), (27, .iload_n 2, 1), (28, .ireturn, 1)]
set_option maxRecDepth 100000 in
theorem dX12_sumOfDuels : mj_pd cX12_sumOfDuels pX12_sumOfDuels := mj_pdB (by decide +kernel)
theorem fX12_sumOfDuels : mj_mf mX12_sumOfDuels := ⟨mj_t8 4 (by decide +kernel) rfl, mj_t1 13 (by decide +kernel) rfl, by decide, by decide, by decide⟩
theorem iX12_sumOfDuels : Cond.instanceMethod yX12_sumOfDuels ∈ mj_GW := mj_t8 3 (by decide +kernel) rfl
theorem vX12_sumOfDuels : Cond.selects (mj_own.getD 12 "") yX12_sumOfDuels yX12_sumOfDuels ∈ mj_GW := mj_p7 4 (by decide +kernel) rfl
def mX12_strong : mj_m := (12, false, cX12_strong, 3, some .int, yX12_strong)
def pX12_strong : List (Nat × Instr × Nat) := [(0, .aload_n 0, 1), (1, .getfield 255, 3), (4, .ifCond .eq 10, 3), (7, .aload_n 0, 1), (8, .getfield 280, 3), (11, .ifCond .ne 5, 3), (14, .iconst (-1), 1), (15, .ireturn, 1), (16, .iconst 0, 1), (17, .istore_n 1, 1), (18, .iconst 1, 1), (19, .istore_n 2, 1), (20, .iload_n 2, 1), (21, .aload_n 0, 1), (22, .getfield 280, 3), (25, .if_icmp .ge 28, 3), (28, .aload_n 0, 1), (29, .iload_n 2, 1), (30, .invokevirtual 425, 3), (33, .aload_n 0, 1), (34, .iload_n 1, 1), (35, .invokevirtual 425, 3), (38, .if_icmp .le 7, 3), (41, .iload_n 2, 1), (42, .goto 4, 3), (45, .iload_n 1, 1), (46, .istore_n 1, 1), (47, .iinc 2 1, 3), (50, .goto (-30), 3), (53, .iload_n 1, 1), (54, .ireturn, 1)]
set_option maxRecDepth 100000 in
theorem dX12_strong : mj_pd cX12_strong pX12_strong := mj_pdB (by decide +kernel)
theorem fX12_strong : mj_mf mX12_strong := ⟨mj_t8 0 (by decide +kernel) rfl, mj_t1 13 (by decide +kernel) rfl, by decide, by decide, by decide⟩
theorem iX12_strong : Cond.instanceMethod yX12_strong ∈ mj_GW := mj_t7 238 (by decide +kernel) rfl
theorem vX12_strong : Cond.selects (mj_own.getD 12 "") yX12_strong yX12_strong ∈ mj_GW := mj_t7 239 (by decide +kernel) rfl
def mX12_picture : mj_m := (12, false, cX12_picture, 4, some .int, yX12_picture)
def pX12_picture : List (Nat × Instr × Nat) := [(0, .aload_n 0, 1), (1, .iload_n 1, 1), (2, .invokevirtual 306, 3), (5, .ifCond .eq 28, 3), (8, .iload_n 2, 1), (9, .bipush (-20), 2), (11, .iload_n 3, 1), (12, .invokestatic 214, 3), (15, .ifCond .eq 18, 3), (18, .iload_n 3, 1), (19, .bipush 20, 2), (21, .if_icmp .gt 12, 3), (24, .aload_n 0, 1), (25, .getfield 261, 3), (28, .bipush 12, 2), (30, .if_icmp .ne 5, 3), (33, .iconst (-1), 1), (34, .ireturn, 1), (35, .aload_n 0, 1), (36, .getfield 84, 3), (39, .aload_n 0, 1), (40, .getfield 261, 3), (43, .iload_n 1, 1), (44, .iastore, 1), (45, .aload_n 0, 1), (46, .getfield 87, 3), (49, .aload_n 0, 1), (50, .getfield 261, 3), (53, .iload_n 2, 1), (54, .iastore, 1), (55, .aload_n 0, 1), (56, .getfield 90, 3), (59, .aload_n 0, 1), (60, .getfield 261, 3), (63, .iload_n 3, 1), (64, .iastore, 1), (65, .aload_n 0, 1), (66, .dup, 1), (67, .getfield 261, 3), (70, .iconst 1, 1), (71, .iadd, 1), (72, .putfield 261, 3), (75, .aload_n 0, 1), (76, .getfield 261, 3), (79, .ireturn, 1)]
set_option maxRecDepth 100000 in
theorem dX12_picture : mj_pd cX12_picture pX12_picture := mj_pdB (by decide +kernel)
theorem fX12_picture : mj_mf mX12_picture := ⟨mj_t8 8 (by decide +kernel) rfl, mj_t1 13 (by decide +kernel) rfl, by decide, by decide, by decide⟩
theorem iX12_picture : Cond.instanceMethod yX12_picture ∈ mj_GW := mj_t8 6 (by decide +kernel) rfl
theorem vX12_picture : Cond.selects (mj_own.getD 12 "") yX12_picture yX12_picture ∈ mj_GW := mj_t8 7 (by decide +kernel) rfl
def mX12_wasSo : mj_m := (12, false, cX12_wasSo, 7, some .boolean, yX12_wasSo)
def pX12_wasSo : List (Nat × Instr × Nat) := [(0, .bipush (-20), 2), (2, .istore_n 3, 1), (3, .bipush 20, 2), (5, .istore 4, 2), (7, .iconst 0, 1), (8, .istore 5, 2), (10, .iconst 0, 1), (11, .istore 6, 2), (13, .iload 6, 2), (15, .aload_n 0, 1), (16, .getfield 261, 3), (19, .if_icmp .ge 49, 3), (22, .aload_n 0, 1), (23, .getfield 84, 3), (26, .iload 6, 2), (28, .iaload, 1), (29, .iload_n 1, 1), (30, .if_icmp .ne 32, 3), (33, .iload_n 3, 1), (34, .aload_n 0, 1), (35, .getfield 87, 3), (38, .iload 6, 2), (40, .iaload, 1), (41, .invokestatic 295, 3), (44, .istore_n 3, 1), (45, .iload 4, 2), (47, .aload_n 0, 1), (48, .getfield 90, 3), (51, .iload 6, 2), (53, .iaload, 1), (54, .invokestatic 321, 3), (57, .istore 4, 2), (59, .iinc 5 1, 3), (62, .iinc 6 1, 3), (65, .goto (-52), 3), (68, .iload 5, 2), (70, .ifCond .le 40, 3), (73, .iload_n 2, 1), (74, .iconst 2, 1), (75, .if_icmp .ne 12, 3), (78, .iload_n 3, 1), (79, .iload 4, 2), (81, .if_icmp .le 29, 3), (84, .goto 22, 3), (87, .iload_n 3, 1), (88, .iload 4, 2), (90, .if_icmp .gt 20, 3), (93, .iload_n 2, 1), (94, .ifCond .ne 7, 3), (97, .iload_n 3, 1), (98, .goto 5, 3), (101, .iload 4, 2), (103, .ifCond .ge 7, 3), (106, .iconst 1, 1), (107, .goto 4, 3), (110, .iconst 0, 1), (111, .ireturn, 1)]
set_option maxRecDepth 100000 in
theorem dX12_wasSo : mj_pd cX12_wasSo pX12_wasSo := mj_pdB (by decide +kernel)
theorem fX12_wasSo : mj_mf mX12_wasSo := ⟨mj_t8 16 (by decide +kernel) rfl, mj_t1 13 (by decide +kernel) rfl, by decide, by decide, by decide⟩
theorem iX12_wasSo : Cond.instanceMethod yX12_wasSo ∈ mj_GW := mj_t8 15 (by decide +kernel) rfl
theorem vX12_wasSo : Cond.selects (mj_own.getD 12 "") yX12_wasSo yX12_wasSo ∈ mj_GW := mj_p7 5 (by decide +kernel) rfl
def mX12_was : mj_m := (12, false, cX12_was, 4, some .int, yX12_was)
def pX12_was : List (Nat × Instr × Nat) := [(0, .aload_n 0, 1), (1, .getfield 255, 3), (4, .ifCond .eq 12, 3), (7, .iload_n 1, 1), (8, .iconst 0, 1), (9, .iconst 2, 1), (10, .invokestatic 214, 3), (13, .ifCond .ne 5, 3), (16, .iconst (-1), 1), (17, .ireturn, 1), (18, .iconst 0, 1), (19, .istore_n 2, 1), (20, .iconst 0, 1), (21, .istore_n 3, 1), (22, .iload_n 3, 1), (23, .aload_n 0, 1), (24, .getfield 255, 3), (27, .if_icmp .ge 28, 3), (30, .iload_n 2, 1), (31, .aload_n 0, 1), (32, .iload_n 3, 1), (33, .iload_n 1, 1), (34, .invokevirtual 428, 3), (37, .ifCond .eq 9, 3), (40, .iconst 1, 1), (41, .iload_n 3, 1), (42, .ishl, 1), (43, .goto 4, 3), (46, .iconst 0, 1), (47, .ior, 1), (48, .istore_n 2, 1), (49, .iinc 3 1, 3), (52, .goto (-30), 3), (55, .iload_n 2, 1), (56, .ireturn, 1)]
set_option maxRecDepth 100000 in
theorem dX12_was : mj_pd cX12_was pX12_was := mj_pdB (by decide +kernel)
theorem fX12_was : mj_mf mX12_was := ⟨mj_t8 12 (by decide +kernel) rfl, mj_t1 13 (by decide +kernel) rfl, by decide, by decide, by decide⟩
theorem iX12_was : Cond.instanceMethod yX12_was ∈ mj_GW := mj_t8 10 (by decide +kernel) rfl
theorem vX12_was : Cond.selects (mj_own.getD 12 "") yX12_was yX12_was ∈ mj_GW := mj_t8 11 (by decide +kernel) rfl
def mX12_write : mj_m := (12, false, cX12_write, 2, none, yX12_write)
def pX12_write : List (Nat × Instr × Nat) := [(0, .iconst 0, 1), (1, .istore_n 1, 1), (2, .iload_n 1, 1), (3, .aload_n 0, 1), (4, .getfield 255, 3), (7, .if_icmp .ge 28, 3), (10, .aload_n 0, 1), (11, .getfield 93, 3), (14, .bipush 8, 2), (16, .aload_n 0, 1), (17, .getfield 264, 3), (20, .imul, 1), (21, .iload_n 1, 1), (22, .iadd, 1), (23, .aload_n 0, 1), (24, .iload_n 1, 1), (25, .invokevirtual 315, 3), (28, .iastore, 1), (29, .iinc 1 1, 3), (32, .goto (-30), 3), (35, .aload_n 0, 1), (36, .dup, 1), (37, .getfield 264, 3), (40, .iconst 1, 1), (41, .iadd, 1), (42, .putfield 264, 3), (45, .return_, 1)]
set_option maxRecDepth 100000 in
theorem dX12_write : mj_pd cX12_write pX12_write := mj_pdB (by decide +kernel)
theorem fX12_write : mj_mf mX12_write := ⟨mj_t8 24 (by decide +kernel) rfl, mj_t1 13 (by decide +kernel) rfl, by decide, by decide, by decide⟩
theorem iX12_write : Cond.instanceMethod yX12_write ∈ mj_GW := mj_t8 23 (by decide +kernel) rfl
theorem vX12_write : Cond.selects (mj_own.getD 12 "") yX12_write yX12_write ∈ mj_GW := mj_p7 6 (by decide +kernel) rfl
def mX12_race : mj_m := (12, false, cX12_race, 1, some .int, yX12_race)
def pX12_race : List (Nat × Instr × Nat) := [(0, .aload_n 0, 1), (1, .getfield 255, 3), (4, .ifCond .eq 19, 3), (7, .aload_n 0, 1), (8, .invokevirtual 323, 3), (11, .ifCond .gt 12, 3), (14, .aload_n 0, 1), (15, .getfield 264, 3), (18, .bipush 40, 2), (20, .if_icmp .ne 5, 3), (23, .iconst (-1), 1), (24, .ireturn, 1), (25, .aload_n 0, 1), (26, .invokevirtual 431, 3), (29, .aload_n 0, 1), (30, .getfield 264, 3), (33, .ireturn, 1)]
set_option maxRecDepth 100000 in
theorem dX12_race : mj_pd cX12_race pX12_race := mj_pdB (by decide +kernel)
theorem fX12_race : mj_mf mX12_race := ⟨mj_t8 20 (by decide +kernel) rfl, mj_t1 13 (by decide +kernel) rfl, by decide, by decide, by decide⟩
theorem iX12_race : Cond.instanceMethod yX12_race ∈ mj_GW := mj_t8 18 (by decide +kernel) rfl
theorem vX12_race : Cond.selects (mj_own.getD 12 "") yX12_race yX12_race ∈ mj_GW := mj_t8 19 (by decide +kernel) rfl
def mX12_pointsOf : mj_m := (12, false, cX12_pointsOf, 4, some .int, yX12_pointsOf)
def pX12_pointsOf : List (Nat × Instr × Nat) := [(0, .iconst 0, 1), (1, .istore_n 2, 1), (2, .iconst 0, 1), (3, .istore_n 3, 1), (4, .iload_n 3, 1), (5, .aload_n 0, 1), (6, .getfield 264, 3), (9, .if_icmp .ge 23, 3), (12, .iload_n 2, 1), (13, .aload_n 0, 1), (14, .getfield 93, 3), (17, .bipush 8, 2), (19, .iload_n 3, 1), (20, .imul, 1), (21, .iload_n 1, 1), (22, .iadd, 1), (23, .iaload, 1), (24, .iadd, 1), (25, .istore_n 2, 1), (26, .iinc 3 1, 3), (29, .goto (-25), 3), (32, .iload_n 2, 1), (33, .ireturn, 1)]
set_option maxRecDepth 100000 in
theorem dX12_pointsOf : mj_pd cX12_pointsOf pX12_pointsOf := mj_pdB (by decide +kernel)
theorem fX12_pointsOf : mj_mf mX12_pointsOf := ⟨mj_t8 32 (by decide +kernel) rfl, mj_t1 13 (by decide +kernel) rfl, by decide, by decide, by decide⟩
theorem iX12_pointsOf : Cond.instanceMethod yX12_pointsOf ∈ mj_GW := mj_t8 31 (by decide +kernel) rfl
theorem vX12_pointsOf : Cond.selects (mj_own.getD 12 "") yX12_pointsOf yX12_pointsOf ∈ mj_GW := mj_p7 7 (by decide +kernel) rfl
def mX12_points : mj_m := (12, false, cX12_points, 2, some .int, yX12_points)
def pX12_points : List (Nat × Instr × Nat) := [(0, .aload_n 0, 1), (1, .iload_n 1, 1), (2, .invokevirtual 306, 3), (5, .ifCond .eq 11, 3), (8, .aload_n 0, 1), (9, .iload_n 1, 1), (10, .invokevirtual 434, 3), (13, .goto 4, 3), (16, .iconst (-1), 1), (17, .ireturn, 1)]
set_option maxRecDepth 100000 in
theorem dX12_points : mj_pd cX12_points pX12_points := mj_pdB (by decide +kernel)
theorem fX12_points : mj_mf mX12_points := ⟨mj_t8 28 (by decide +kernel) rfl, mj_t1 13 (by decide +kernel) rfl, by decide, by decide, by decide⟩
theorem iX12_points : Cond.instanceMethod yX12_points ∈ mj_GW := mj_t8 26 (by decide +kernel) rfl
theorem vX12_points : Cond.selects (mj_own.getD 12 "") yX12_points yX12_points ∈ mj_GW := mj_t8 27 (by decide +kernel) rfl
def mX12_champion : mj_m := (12, false, cX12_champion, 3, some .int, yX12_champion)
def pX12_champion : List (Nat × Instr × Nat) := [(0, .aload_n 0, 1), (1, .getfield 264, 3), (4, .ifCond .ne 5, 3), (7, .iconst (-1), 1), (8, .ireturn, 1), (9, .iconst 0, 1), (10, .istore_n 1, 1), (11, .iconst 1, 1), (12, .istore_n 2, 1), (13, .iload_n 2, 1), (14, .aload_n 0, 1), (15, .getfield 255, 3), (18, .if_icmp .ge 28, 3), (21, .aload_n 0, 1), (22, .iload_n 2, 1), (23, .invokevirtual 434, 3), (26, .aload_n 0, 1), (27, .iload_n 1, 1), (28, .invokevirtual 434, 3), (31, .if_icmp .ge 7, 3), (34, .iload_n 2, 1), (35, .goto 4, 3), (38, .iload_n 1, 1), (39, .istore_n 1, 1), (40, .iinc 2 1, 3), (43, .goto (-30), 3), (46, .iload_n 1, 1), (47, .ireturn, 1)]
set_option maxRecDepth 100000 in
theorem dX12_champion : mj_pd cX12_champion pX12_champion := mj_pdB (by decide +kernel)
theorem fX12_champion : mj_mf mX12_champion := ⟨mj_t8 36 (by decide +kernel) rfl, mj_t1 13 (by decide +kernel) rfl, by decide, by decide, by decide⟩
theorem iX12_champion : Cond.instanceMethod yX12_champion ∈ mj_GW := mj_t8 34 (by decide +kernel) rfl
theorem vX12_champion : Cond.selects (mj_own.getD 12 "") yX12_champion yX12_champion ∈ mj_GW := mj_t8 35 (by decide +kernel) rfl
def mX12_isHeldAhead : mj_m := (12, false, cX12_isHeldAhead, 5, some .boolean, yX12_isHeldAhead)
def pX12_isHeldAhead : List (Nat × Instr × Nat) := [(0, .iconst 0, 1), (1, .istore 4, 2), (3, .iload 4, 2), (5, .iload_n 1, 1), (6, .if_icmp .ge 33, 3), (9, .aload_n 0, 1), (10, .iload 4, 2), (12, .iconst 0, 1), (13, .invokevirtual 283, 3), (16, .iload_n 2, 1), (17, .if_icmp .ne 16, 3), (20, .aload_n 0, 1), (21, .iload 4, 2), (23, .iconst 1, 1), (24, .invokevirtual 283, 3), (27, .iload_n 3, 1), (28, .if_icmp .ne 5, 3), (31, .iconst 1, 1), (32, .ireturn, 1), (33, .iinc 4 1, 3), (36, .goto (-33), 3), (39, .iconst 0, 1), (40, .ireturn, 1)]
set_option maxRecDepth 100000 in
theorem dX12_isHeldAhead : mj_pd cX12_isHeldAhead pX12_isHeldAhead := mj_pdB (by decide +kernel)
theorem fX12_isHeldAhead : mj_mf mX12_isHeldAhead := ⟨mj_t8 48 (by decide +kernel) rfl, mj_t1 13 (by decide +kernel) rfl, by decide, by decide, by decide⟩
theorem iX12_isHeldAhead : Cond.instanceMethod yX12_isHeldAhead ∈ mj_GW := mj_t8 47 (by decide +kernel) rfl
theorem vX12_isHeldAhead : Cond.selects (mj_own.getD 12 "") yX12_isHeldAhead yX12_isHeldAhead ∈ mj_GW := mj_p7 9 (by decide +kernel) rfl
def mX12_drawCell : mj_m := (12, false, cX12_drawCell, 5, none, yX12_drawCell)
def pX12_drawCell : List (Nat × Instr × Nat) := [(0, .iconst 5, 1), (1, .aload_n 0, 1), (2, .bipush 10, 2), (4, .invokevirtual 378, 3), (7, .iadd, 1), (8, .istore_n 2, 1), (9, .aload_n 0, 1), (10, .aload_n 0, 1), (11, .getfield 46, 3), (14, .iconst 0, 1), (15, .iaload, 1), (16, .invokevirtual 378, 3), (19, .istore_n 3, 1), (20, .iconst 0, 1), (21, .istore 4, 2), (23, .aload_n 0, 1), (24, .iload_n 1, 1), (25, .iload_n 3, 1), (26, .iload_n 2, 1), (27, .invokevirtual 437, 3), (30, .ifCond .eq 37, 3), (33, .iload_n 3, 1), (34, .iconst 1, 1), (35, .iadd, 1), (36, .aload_n 0, 1), (37, .getfield 46, 3), (40, .iconst 0, 1), (41, .iaload, 1), (42, .irem, 1), (43, .istore_n 3, 1), (44, .iinc 4 1, 3), (47, .iload 4, 2), (49, .aload_n 0, 1), (50, .getfield 46, 3), (53, .iconst 0, 1), (54, .iaload, 1), (55, .if_icmp .ne (-32), 3), (58, .iinc 2 1, 3), (61, .iconst 0, 1), (62, .istore 4, 2), (64, .goto (-41), 3), (67, .aload_n 0, 1), (68, .iload_n 1, 1), (69, .iconst 0, 1), (70, .iload_n 3, 1), (71, .invokevirtual 274, 3), (74, .aload_n 0, 1), (75, .iload_n 1, 1), (76, .iconst 1, 1), (77, .iload_n 2, 1), (78, .invokevirtual 274, 3), (81, .return_, 1)]
set_option maxRecDepth 100000 in
theorem dX12_drawCell : mj_pd cX12_drawCell pX12_drawCell := mj_pdB (by decide +kernel)
theorem fX12_drawCell : mj_mf mX12_drawCell := ⟨mj_t8 44 (by decide +kernel) rfl, mj_t1 13 (by decide +kernel) rfl, by decide, by decide, by decide⟩
theorem iX12_drawCell : Cond.instanceMethod yX12_drawCell ∈ mj_GW := mj_t8 43 (by decide +kernel) rfl
theorem vX12_drawCell : Cond.selects (mj_own.getD 12 "") yX12_drawCell yX12_drawCell ∈ mj_GW := mj_p7 8 (by decide +kernel) rfl
def mX12_season : mj_m := (12, false, cX12_season, 6, some .int, yX12_season)
def pX12_season : List (Nat × Instr × Nat) := [(0, .aload_n 0, 1), (1, .getfield 255, 3), (4, .ifCond .eq 24, 3), (7, .iload_n 1, 1), (8, .iconst 1, 1), (9, .bipush 20, 2), (11, .invokestatic 214, 3), (14, .ifCond .eq 14, 3), (17, .aload_n 0, 1), (18, .getfield 264, 3), (21, .iload_n 1, 1), (22, .iadd, 1), (23, .bipush 40, 2), (25, .if_icmp .le 5, 3), (28, .iconst (-1), 1), (29, .ireturn, 1), (30, .aload_n 0, 1), (31, .invokevirtual 382, 3), (34, .aload_n 0, 1), (35, .lload_n 2, 1), (36, .putfield 370, 3), (39, .iconst 0, 1), (40, .istore 4, 2), (42, .iload 4, 2), (44, .iload_n 1, 1), (45, .if_icmp .ge 45, 3), (48, .aload_n 0, 1), (49, .invokevirtual 258, 3), (52, .iconst 0, 1), (53, .istore 5, 2), (55, .iload 5, 2), (57, .aload_n 0, 1), (58, .getfield 255, 3), (61, .if_icmp .ge 15, 3), (64, .aload_n 0, 1), (65, .iload 5, 2), (67, .invokevirtual 440, 3), (70, .iinc 5 1, 3), (73, .goto (-18), 3), (76, .aload_n 0, 1), (77, .invokevirtual 385, 3), (80, .aload_n 0, 1), (81, .invokevirtual 431, 3), (84, .iinc 4 1, 3), (87, .goto (-45), 3), (90, .aload_n 0, 1), (91, .invokevirtual 388, 3), (94, .aload_n 0, 1), (95, .getfield 264, 3), (98, .ireturn, 1)]
set_option maxRecDepth 100000 in
theorem dX12_season : mj_pd cX12_season pX12_season := mj_pdB (by decide +kernel)
theorem fX12_season : mj_mf mX12_season := ⟨mj_t8 40 (by decide +kernel) rfl, mj_t1 13 (by decide +kernel) rfl, by decide, by decide, by decide⟩
theorem iX12_season : Cond.instanceMethod yX12_season ∈ mj_GW := mj_t8 38 (by decide +kernel) rfl
theorem vX12_season : Cond.selects (mj_own.getD 12 "") yX12_season yX12_season ∈ mj_GW := mj_t8 39 (by decide +kernel) rfl
def mX12_flag : mj_m := (12, false, cX12_flag, 3, some .int, yX12_flag)
def pX12_flag : List (Nat × Instr × Nat) := [(0, .aload_n 0, 1), (1, .iload_n 1, 1), (2, .invokevirtual 306, 3), (5, .ifCond .ne 5, 3), (8, .iconst (-1), 1), (9, .ireturn, 1), (10, .aload_n 0, 1), (11, .invokevirtual 382, 3), (14, .aload_n 0, 1), (15, .invokevirtual 385, 3), (18, .aload_n 0, 1), (19, .iload_n 1, 1), (20, .iconst 1, 1), (21, .invokevirtual 303, 3), (24, .aload_n 0, 1), (25, .iload_n 1, 1), (26, .iconst 0, 1), (27, .invokevirtual 303, 3), (30, .if_icmp .ge 7, 3), (33, .iconst 1, 1), (34, .goto 4, 3), (37, .iconst 0, 1), (38, .istore_n 2, 1), (39, .aload_n 0, 1), (40, .invokevirtual 388, 3), (43, .iload_n 2, 1), (44, .ireturn, 1)]
set_option maxRecDepth 100000 in
theorem dX12_flag : mj_pd cX12_flag pX12_flag := mj_pdB (by decide +kernel)
theorem fX12_flag : mj_mf mX12_flag := ⟨mj_t8 52 (by decide +kernel) rfl, mj_t1 13 (by decide +kernel) rfl, by decide, by decide, by decide⟩
theorem iX12_flag : Cond.instanceMethod yX12_flag ∈ mj_GW := mj_t8 50 (by decide +kernel) rfl
theorem vX12_flag : Cond.selects (mj_own.getD 12 "") yX12_flag yX12_flag ∈ mj_GW := mj_t8 51 (by decide +kernel) rfl
def mX12_image : mj_m := (12, false, cX12_image, 2, some .int, yX12_image)
def pX12_image : List (Nat × Instr × Nat) := [(0, .aload_n 0, 1), (1, .getfield 255, 3), (4, .ifCond .ne 5, 3), (7, .iconst (-1), 1), (8, .ireturn, 1), (9, .iconst 0, 1), (10, .istore_n 1, 1), (11, .iload_n 1, 1), (12, .bipush 49, 2), (14, .if_icmp .ge 21, 3), (17, .aload_n 0, 1), (18, .getfield 96, 3), (21, .iload_n 1, 1), (22, .aload_n 0, 1), (23, .getfield 52, 3), (26, .iload_n 1, 1), (27, .iaload, 1), (28, .iastore, 1), (29, .iinc 1 1, 3), (32, .goto (-21), 3), (35, .aload_n 0, 1), (36, .iconst 1, 1), (37, .putfield 270, 3), (40, .aload_n 0, 1), (41, .getfield 52, 3), (44, .bipush 48, 2), (46, .iaload, 1), (47, .ireturn, 1)]
set_option maxRecDepth 100000 in
theorem dX12_image : mj_pd cX12_image pX12_image := mj_pdB (by decide +kernel)
theorem fX12_image : mj_mf mX12_image := ⟨mj_t8 56 (by decide +kernel) rfl, mj_t1 13 (by decide +kernel) rfl, by decide, by decide, by decide⟩
theorem iX12_image : Cond.instanceMethod yX12_image ∈ mj_GW := mj_t8 54 (by decide +kernel) rfl
theorem vX12_image : Cond.selects (mj_own.getD 12 "") yX12_image yX12_image ∈ mj_GW := mj_t8 55 (by decide +kernel) rfl
def mX12_back : mj_m := (12, false, cX12_back, 2, some .int, yX12_back)
def pX12_back : List (Nat × Instr × Nat) := [(0, .aload_n 0, 1), (1, .getfield 270, 3), (4, .ifCond .ne 5, 3), (7, .iconst (-1), 1), (8, .ireturn, 1), (9, .iconst 0, 1), (10, .istore_n 1, 1), (11, .iload_n 1, 1), (12, .bipush 49, 2), (14, .if_icmp .ge 21, 3), (17, .aload_n 0, 1), (18, .getfield 52, 3), (21, .iload_n 1, 1), (22, .aload_n 0, 1), (23, .getfield 96, 3), (26, .iload_n 1, 1), (27, .iaload, 1), (28, .iastore, 1), (29, .iinc 1 1, 3), (32, .goto (-21), 3), (35, .aload_n 0, 1), (36, .iconst 0, 1), (37, .putfield 267, 3), (40, .aload_n 0, 1), (41, .getfield 52, 3), (44, .bipush 48, 2), (46, .iaload, 1), (47, .ireturn, 1)]
set_option maxRecDepth 100000 in
theorem dX12_back : mj_pd cX12_back pX12_back := mj_pdB (by decide +kernel)
theorem fX12_back : mj_mf mX12_back := ⟨mj_t8 60 (by decide +kernel) rfl, mj_t1 13 (by decide +kernel) rfl, by decide, by decide, by decide⟩
theorem iX12_back : Cond.instanceMethod yX12_back ∈ mj_GW := mj_t8 58 (by decide +kernel) rfl
theorem vX12_back : Cond.selects (mj_own.getD 12 "") yX12_back yX12_back ∈ mj_GW := mj_t8 59 (by decide +kernel) rfl
def mX12_count : mj_m := (12, false, cX12_count, 2, some .int, yX12_count)
def pX12_count : List (Nat × Instr × Nat) := [(0, .iload_n 1, 1), (1, .tableswitch 90 0 7 #[47, 52, 57, 62, 70, 75, 80, 85], 47), (48, .aload_n 0, 1), (49, .getfield 255, 3), (52, .ireturn, 1), (53, .aload_n 0, 1), (54, .getfield 280, 3), (57, .ireturn, 1), (58, .aload_n 0, 1), (59, .getfield 106, 3), (62, .ireturn, 1), (63, .aload_n 0, 1), (64, .getfield 52, 3), (67, .bipush 48, 2), (69, .iaload, 1), (70, .ireturn, 1), (71, .aload_n 0, 1), (72, .getfield 361, 3), (75, .ireturn, 1), (76, .aload_n 0, 1), (77, .getfield 261, 3), (80, .ireturn, 1), (81, .aload_n 0, 1), (82, .getfield 264, 3), (85, .ireturn, 1), (86, .aload_n 0, 1), (87, .getfield 267, 3), (90, .ireturn, 1), (91, .ldc_w 381, 3), (94, .ireturn, 1)]
set_option maxRecDepth 100000 in
theorem dX12_count : mj_pd cX12_count pX12_count := mj_pdB (by decide +kernel)
theorem fX12_count : mj_mf mX12_count := ⟨mj_t8 64 (by decide +kernel) rfl, mj_t1 13 (by decide +kernel) rfl, by decide, by decide, by decide⟩
theorem iX12_count : Cond.instanceMethod yX12_count ∈ mj_GW := mj_t8 62 (by decide +kernel) rfl
theorem vX12_count : Cond.selects (mj_own.getD 12 "") yX12_count yX12_count ∈ mj_GW := mj_t8 63 (by decide +kernel) rfl
def mJ6_signum_0f7a4 : mj_m := (17, false, cJ6_signum_0f7a4, 1, some .int, yJ6_signum_0f7a4)
def pJ6_signum_0f7a4 : List (Nat × Instr × Nat) := [(0, .iload_n 0, 1), (1, .bipush 31, 2), (3, .ishr, 1), (4, .iload_n 0, 1), (5, .ineg, 1), (6, .bipush 31, 2), (8, .iushr, 1), (9, .ior, 1), (10, .ireturn, 1)]
set_option maxRecDepth 100000 in
theorem dJ6_signum_0f7a4 : mj_pd cJ6_signum_0f7a4 pJ6_signum_0f7a4 := mj_pdB (by decide +kernel)
theorem fJ6_signum_0f7a4 : mj_mf mJ6_signum_0f7a4 := ⟨mj_t7 89 (by decide +kernel) rfl, mj_t1 25 (by decide +kernel) rfl, by decide, by decide, by decide⟩
theorem sJ6_signum_0f7a4 : Cond.static yJ6_signum_0f7a4 ∈ mj_GW := mj_t7 88 (by decide +kernel) rfl
def mJ9_abs_0f7a4 : mj_m := (16, false, cJ9_abs_0f7a4, 1, some .int, yJ9_abs_0f7a4)
def pJ9_abs_0f7a4 : List (Nat × Instr × Nat) := [(0, .iload_n 0, 1), (1, .ifCond .ge 8, 3), (4, .iload_n 0, 1), (5, .ineg, 1), (6, .goto 4, 3), (9, .iload_n 0, 1), (10, .ireturn, 1)]
set_option maxRecDepth 100000 in
theorem dJ9_abs_0f7a4 : mj_pd cJ9_abs_0f7a4 pJ9_abs_0f7a4 := mj_pdB (by decide +kernel)
theorem fJ9_abs_0f7a4 : mj_mf mJ9_abs_0f7a4 := ⟨mj_t6 232 (by decide +kernel) rfl, mj_t1 17 (by decide +kernel) rfl, by decide, by decide, by decide⟩
theorem sJ9_abs_0f7a4 : Cond.static yJ9_abs_0f7a4 ∈ mj_GW := mj_t6 231 (by decide +kernel) rfl
def mJ9_max_7cf53 : mj_m := (16, false, cJ9_max_7cf53, 2, some .int, yJ9_max_7cf53)
def pJ9_max_7cf53 : List (Nat × Instr × Nat) := [(0, .iload_n 0, 1), (1, .iload_n 1, 1), (2, .if_icmp .lt 7, 3), (5, .iload_n 0, 1), (6, .goto 4, 3), (9, .iload_n 1, 1), (10, .ireturn, 1)]
set_option maxRecDepth 100000 in
theorem dJ9_max_7cf53 : mj_pd cJ9_max_7cf53 pJ9_max_7cf53 := mj_pdB (by decide +kernel)
theorem fJ9_max_7cf53 : mj_mf mJ9_max_7cf53 := ⟨mj_t2 213 (by decide +kernel) rfl, mj_t1 17 (by decide +kernel) rfl, by decide, by decide, by decide⟩
theorem sJ9_max_7cf53 : Cond.static yJ9_max_7cf53 ∈ mj_GW := mj_t2 212 (by decide +kernel) rfl
def mJ9_max_f86c9 : mj_m := (16, false, cJ9_max_f86c9, 4, some .long, yJ9_max_f86c9)
def pJ9_max_f86c9 : List (Nat × Instr × Nat) := [(0, .lload_n 0, 1), (1, .lload_n 2, 1), (2, .lcmp, 1), (3, .ifCond .lt 7, 3), (6, .lload_n 0, 1), (7, .goto 4, 3), (10, .lload_n 2, 1), (11, .lreturn, 1)]
set_option maxRecDepth 100000 in
theorem dJ9_max_f86c9 : mj_pd cJ9_max_f86c9 pJ9_max_f86c9 := mj_pdB (by decide +kernel)
theorem fJ9_max_f86c9 : mj_mf mJ9_max_f86c9 := ⟨mj_t7 86 (by decide +kernel) rfl, mj_t1 17 (by decide +kernel) rfl, by decide, by decide, by decide⟩
theorem sJ9_max_f86c9 : Cond.static yJ9_max_f86c9 ∈ mj_GW := mj_t7 85 (by decide +kernel) rfl
def mJ9_min_7cf53 : mj_m := (16, false, cJ9_min_7cf53, 2, some .int, yJ9_min_7cf53)
def pJ9_min_7cf53 : List (Nat × Instr × Nat) := [(0, .iload_n 0, 1), (1, .iload_n 1, 1), (2, .if_icmp .gt 7, 3), (5, .iload_n 0, 1), (6, .goto 4, 3), (9, .iload_n 1, 1), (10, .ireturn, 1)]
set_option maxRecDepth 100000 in
theorem dJ9_min_7cf53 : mj_pd cJ9_min_7cf53 pJ9_min_7cf53 := mj_pdB (by decide +kernel)
theorem fJ9_min_7cf53 : mj_mf mJ9_min_7cf53 := ⟨mj_t2 216 (by decide +kernel) rfl, mj_t1 17 (by decide +kernel) rfl, by decide, by decide, by decide⟩
theorem sJ9_min_7cf53 : Cond.static yJ9_min_7cf53 ∈ mj_GW := mj_t2 215 (by decide +kernel) rfl
def mJ9_min_f86c9 : mj_m := (16, false, cJ9_min_f86c9, 4, some .long, yJ9_min_f86c9)
def pJ9_min_f86c9 : List (Nat × Instr × Nat) := [(0, .lload_n 0, 1), (1, .lload_n 2, 1), (2, .lcmp, 1), (3, .ifCond .gt 7, 3), (6, .lload_n 0, 1), (7, .goto 4, 3), (10, .lload_n 2, 1), (11, .lreturn, 1)]
set_option maxRecDepth 100000 in
theorem dJ9_min_f86c9 : mj_pd cJ9_min_f86c9 pJ9_min_f86c9 := mj_pdB (by decide +kernel)
theorem fJ9_min_f86c9 : mj_mf mJ9_min_f86c9 := ⟨mj_t7 83 (by decide +kernel) rfl, mj_t1 17 (by decide +kernel) rfl, by decide, by decide, by decide⟩
theorem sJ9_min_f86c9 : Cond.static yJ9_min_f86c9 ∈ mj_GW := mj_t7 82 (by decide +kernel) rfl
def mJ0_length_8abf5 : mj_m := (14, false, cJ0_length_8abf5, 1, some .int, yJ0_length_8abf5)
def pJ0_length_8abf5 : List (Nat × Instr × Nat) := [(0, .aload_n 0, 1), (1, .getfield 9, 3), (4, .arraylength, 1), (5, .aload_n 0, 1), (6, .invokevirtual 335, 3), (9, .ishr, 1), (10, .ireturn, 1)]
set_option maxRecDepth 100000 in
theorem dJ0_length_8abf5 : mj_pd cJ0_length_8abf5 pJ0_length_8abf5 := mj_pdB (by decide +kernel)
theorem fJ0_length_8abf5 : mj_mf mJ0_length_8abf5 := ⟨mj_t2 182 (by decide +kernel) rfl, mj_t1 15 (by decide +kernel) rfl, by decide, by decide, by decide⟩
theorem iJ0_length_8abf5 : Cond.instanceMethod yJ0_length_8abf5 ∈ mj_GW := mj_t2 180 (by decide +kernel) rfl
theorem vJ0_length_8abf5 : Cond.selects (mj_own.getD 14 "") yJ0_length_8abf5 yJ0_length_8abf5 ∈ mj_GW := mj_t2 181 (by decide +kernel) rfl
def mJ0_indexOf_0f7a4 : mj_m := (14, false, cJ0_indexOf_0f7a4, 2, some .int, yJ0_indexOf_0f7a4)
def pJ0_indexOf_0f7a4 : List (Nat × Instr × Nat) := [(0, .aload_n 0, 1), (1, .iload_n 1, 1), (2, .iconst 0, 1), (3, .invokevirtual 633, 3), (6, .ireturn, 1)]
set_option maxRecDepth 100000 in
theorem dJ0_indexOf_0f7a4 : mj_pd cJ0_indexOf_0f7a4 pJ0_indexOf_0f7a4 := mj_pdB (by decide +kernel)
theorem fJ0_indexOf_0f7a4 : mj_mf mJ0_indexOf_0f7a4 := ⟨mj_t2 195 (by decide +kernel) rfl, mj_t1 15 (by decide +kernel) rfl, by decide, by decide, by decide⟩
theorem iJ0_indexOf_0f7a4 : Cond.instanceMethod yJ0_indexOf_0f7a4 ∈ mj_GW := mj_t2 193 (by decide +kernel) rfl
theorem vJ0_indexOf_0f7a4 : Cond.selects (mj_own.getD 14 "") yJ0_indexOf_0f7a4 yJ0_indexOf_0f7a4 ∈ mj_GW := mj_t2 194 (by decide +kernel) rfl
def mJ0_indexOf_7cf53 : mj_m := (14, false, cJ0_indexOf_7cf53, 3, some .int, yJ0_indexOf_7cf53)
def pJ0_indexOf_7cf53 : List (Nat × Instr × Nat) := [(0, .aload_n 0, 1), (1, .invokevirtual 492, 3), (4, .ifCond .eq 19, 3), (7, .aload_n 0, 1), (8, .getfield 9, 3), (11, .iload_n 1, 1), (12, .iload_n 2, 1), (13, .aload_n 0, 1), (14, .invokevirtual 505, 3), (17, .invokestatic 637, 3), (20, .goto 16, 3), (23, .aload_n 0, 1), (24, .getfield 9, 3), (27, .iload_n 1, 1), (28, .iload_n 2, 1), (29, .aload_n 0, 1), (30, .invokevirtual 505, 3), (33, .invokestatic 640, 3), (36, .ireturn, 1)]
set_option maxRecDepth 100000 in
theorem dJ0_indexOf_7cf53 : mj_pd cJ0_indexOf_7cf53 pJ0_indexOf_7cf53 := mj_pdB (by decide +kernel)
theorem fJ0_indexOf_7cf53 : mj_mf mJ0_indexOf_7cf53 := ⟨mj_t2 199 (by decide +kernel) rfl, mj_t1 15 (by decide +kernel) rfl, by decide, by decide, by decide⟩
theorem iJ0_indexOf_7cf53 : Cond.instanceMethod yJ0_indexOf_7cf53 ∈ mj_GW := mj_t2 197 (by decide +kernel) rfl
theorem vJ0_indexOf_7cf53 : Cond.selects (mj_own.getD 14 "") yJ0_indexOf_7cf53 yJ0_indexOf_7cf53 ∈ mj_GW := mj_t2 198 (by decide +kernel) rfl
def mJ0_coder_7d493 : mj_m := (14, false, cJ0_coder_7d493, 1, some .byte, yJ0_coder_7d493)
def pJ0_coder_7d493 : List (Nat × Instr × Nat) := [(0, .getstatic 38, 3), (3, .ifCond .eq 10, 3), (6, .aload_n 0, 1), (7, .getfield 15, 3), (10, .goto 4, 3), (13, .iconst 1, 1), (14, .ireturn, 1)]
set_option maxRecDepth 100000 in
theorem dJ0_coder_7d493 : mj_pd cJ0_coder_7d493 pJ0_coder_7d493 := mj_pdB (by decide +kernel)
theorem fJ0_coder_7d493 : mj_mf mJ0_coder_7d493 := ⟨mj_t2 186 (by decide +kernel) rfl, mj_t1 15 (by decide +kernel) rfl, by decide, by decide, by decide⟩
theorem iJ0_coder_7d493 : Cond.instanceMethod yJ0_coder_7d493 ∈ mj_GW := mj_t2 184 (by decide +kernel) rfl
theorem vJ0_coder_7d493 : Cond.selects (mj_own.getD 14 "") yJ0_coder_7d493 yJ0_coder_7d493 ∈ mj_GW := mj_t2 185 (by decide +kernel) rfl
def mJ0_isLatin1_aae02 : mj_m := (14, false, cJ0_isLatin1_aae02, 1, some .boolean, yJ0_isLatin1_aae02)
def pJ0_isLatin1_aae02 : List (Nat × Instr × Nat) := [(0, .getstatic 38, 3), (3, .ifCond .eq 14, 3), (6, .aload_n 0, 1), (7, .getfield 15, 3), (10, .ifCond .ne 7, 3), (13, .iconst 1, 1), (14, .goto 4, 3), (17, .iconst 0, 1), (18, .ireturn, 1)]
set_option maxRecDepth 100000 in
theorem dJ0_isLatin1_aae02 : mj_pd cJ0_isLatin1_aae02 pJ0_isLatin1_aae02 := mj_pdB (by decide +kernel)
theorem fJ0_isLatin1_aae02 : mj_mf mJ0_isLatin1_aae02 := ⟨mj_t2 203 (by decide +kernel) rfl, mj_t1 15 (by decide +kernel) rfl, by decide, by decide, by decide⟩
theorem iJ0_isLatin1_aae02 : Cond.instanceMethod yJ0_isLatin1_aae02 ∈ mj_GW := mj_t2 201 (by decide +kernel) rfl
theorem vJ0_isLatin1_aae02 : Cond.selects (mj_own.getD 14 "") yJ0_isLatin1_aae02 yJ0_isLatin1_aae02 ∈ mj_GW := mj_t2 202 (by decide +kernel) rfl
def mJ1_canEncode_9a6ad : mj_m := (15, false, cJ1_canEncode_9a6ad, 1, some .boolean, yJ1_canEncode_9a6ad)
def pJ1_canEncode_9a6ad : List (Nat × Instr × Nat) := [(0, .iload_n 0, 1), (1, .ifCond .lt 14, 3), (4, .iload_n 0, 1), (5, .sipush 255, 3), (8, .if_icmp .gt 7, 3), (11, .iconst 1, 1), (12, .goto 4, 3), (15, .iconst 0, 1), (16, .ireturn, 1)]
set_option maxRecDepth 100000 in
theorem dJ1_canEncode_9a6ad : mj_pd cJ1_canEncode_9a6ad pJ1_canEncode_9a6ad := mj_pdB (by decide +kernel)
theorem fJ1_canEncode_9a6ad : mj_mf mJ1_canEncode_9a6ad := ⟨mj_t2 210 (by decide +kernel) rfl, mj_t1 16 (by decide +kernel) rfl, by decide, by decide, by decide⟩
theorem sJ1_canEncode_9a6ad : Cond.static yJ1_canEncode_9a6ad ∈ mj_GW := mj_t2 209 (by decide +kernel) rfl
def mJ1_indexOf_4cfef : mj_m := (15, false, cJ1_indexOf_4cfef, 4, some .int, yJ1_indexOf_4cfef)
def pJ1_indexOf_4cfef : List (Nat × Instr × Nat) := [(0, .iload_n 1, 1), (1, .invokestatic 88, 3), (4, .ifCond .ne 5, 3), (7, .iconst (-1), 1), (8, .ireturn, 1), (9, .iload_n 2, 1), (10, .iconst 0, 1), (11, .invokestatic 92, 3), (14, .istore_n 2, 1), (15, .iload_n 3, 1), (16, .aload_n 0, 1), (17, .arraylength, 1), (18, .invokestatic 38, 3), (21, .istore_n 3, 1), (22, .iload_n 2, 1), (23, .iload_n 3, 1), (24, .if_icmp .lt 5, 3), (27, .iconst (-1), 1), (28, .ireturn, 1), (29, .aload_n 0, 1), (30, .iload_n 1, 1), (31, .iload_n 2, 1), (32, .iload_n 3, 1), (33, .invokestatic 95, 3), (36, .ireturn, 1)]
set_option maxRecDepth 100000 in
theorem dJ1_indexOf_4cfef : mj_pd cJ1_indexOf_4cfef pJ1_indexOf_4cfef := mj_pdB (by decide +kernel)
theorem fJ1_indexOf_4cfef : mj_mf mJ1_indexOf_4cfef := ⟨mj_t2 207 (by decide +kernel) rfl, mj_t1 16 (by decide +kernel) rfl, by decide, by decide, by decide⟩
theorem sJ1_indexOf_4cfef : Cond.static yJ1_indexOf_4cfef ∈ mj_GW := mj_t2 206 (by decide +kernel) rfl
def mJ1_indexOfChar_4cfef : mj_m := (15, false, cJ1_indexOfChar_4cfef, 6, some .int, yJ1_indexOfChar_4cfef)
def pJ1_indexOfChar_4cfef : List (Nat × Instr × Nat) := [(0, .iload_n 1, 1), (1, .i2b, 1), (2, .istore 4, 2), (4, .iload_n 2, 1), (5, .istore 5, 2), (7, .iload 5, 2), (9, .iload_n 3, 1), (10, .if_icmp .ge 21, 3), (13, .aload_n 0, 1), (14, .iload 5, 2), (16, .baload, 1), (17, .iload 4, 2), (19, .if_icmp .ne 6, 3), (22, .iload 5, 2), (24, .ireturn, 1), (25, .iinc 5 1, 3), (28, .goto (-21), 3), (31, .iconst (-1), 1), (32, .ireturn, 1)]
set_option maxRecDepth 100000 in
theorem dJ1_indexOfChar_4cfef : mj_pd cJ1_indexOfChar_4cfef pJ1_indexOfChar_4cfef := mj_pdB (by decide +kernel)
theorem fJ1_indexOfChar_4cfef : mj_mf mJ1_indexOfChar_4cfef := ⟨mj_t2 219 (by decide +kernel) rfl, mj_t1 16 (by decide +kernel) rfl, by decide, by decide, by decide⟩
theorem sJ1_indexOfChar_4cfef : Cond.static yJ1_indexOfChar_4cfef ∈ mj_GW := mj_t2 218 (by decide +kernel) rfl
theorem l13_19 : Cond.methodLink (mj_own.getD 13 "") 19 yX11_feed ∈ mj_GW := mj_t2 113 (by decide +kernel) rfl
theorem l11_105 : Cond.methodLink (mj_own.getD 11 "") 105 yX8_bytesOf ∈ mj_GW := mj_t2 117 (by decide +kernel) rfl
theorem l11_113 : Cond.methodLink (mj_own.getD 11 "") 113 yX8_append ∈ mj_GW := mj_t2 120 (by decide +kernel) rfl
theorem l13_24 : Cond.methodLink (mj_own.getD 13 "") 24 yX11_end ∈ mj_GW := mj_t2 124 (by decide +kernel) rfl
theorem l13_29 : Cond.methodLink (mj_own.getD 13 "") 29 yX11_fault ∈ mj_GW := mj_t2 128 (by decide +kernel) rfl
theorem l11_117 : Cond.methodLink (mj_own.getD 11 "") 117 yX10_findFault ∈ mj_GW := mj_t2 132 (by decide +kernel) rfl
theorem l10_33 : Cond.methodLink (mj_own.getD 10 "") 33 yX8_rewind ∈ mj_GW := mj_t2 136 (by decide +kernel) rfl
theorem l10_42 : Cond.methodLink (mj_own.getD 10 "") 42 yX3_empty ∈ mj_GW := mj_t2 140 (by decide +kernel) rfl
theorem l10_45 : Cond.methodLink (mj_own.getD 10 "") 45 yX10_readClause ∈ mj_GW := mj_t2 144 (by decide +kernel) rfl
theorem l10_57 : Cond.methodLink (mj_own.getD 10 "") 57 yX8_nextSign ∈ mj_GW := mj_t2 148 (by decide +kernel) rfl
theorem l8_22 : Cond.methodLink (mj_own.getD 8 "") 22 yX8_rawSign ∈ mj_GW := mj_t2 152 (by decide +kernel) rfl
theorem l10_53 : Cond.methodLink (mj_own.getD 10 "") 53 yX8_take ∈ mj_GW := mj_t2 156 (by decide +kernel) rfl
theorem l8_26 : Cond.methodLink (mj_own.getD 8 "") 26 yX8_nextSign ∈ mj_GW := mj_t2 160 (by decide +kernel) rfl
theorem l10_70 : Cond.methodLink (mj_own.getD 10 "") 70 yX10_readLine ∈ mj_GW := mj_t2 161 (by decide +kernel) rfl
theorem l10_87 : Cond.methodLink (mj_own.getD 10 "") 87 yX10_readItems ∈ mj_GW := mj_t2 172 (by decide +kernel) rfl
theorem l10_115 : Cond.methodLink (mj_own.getD 10 "") 115 yJ0_length_8abf5 ∈ mj_GW := mj_t2 179 (by decide +kernel) rfl
theorem l14_335 : Cond.methodLink (mj_own.getD 14 "") 335 yJ0_coder_7d493 ∈ mj_GW := mj_t2 183 (by decide +kernel) rfl
theorem l10_119 : Cond.methodLink (mj_own.getD 10 "") 119 yX8_indexIn ∈ mj_GW := mj_t2 189 (by decide +kernel) rfl
theorem l8_33 : Cond.methodLink (mj_own.getD 8 "") 33 yJ0_indexOf_0f7a4 ∈ mj_GW := mj_t2 192 (by decide +kernel) rfl
theorem l14_633 : Cond.methodLink (mj_own.getD 14 "") 633 yJ0_indexOf_7cf53 ∈ mj_GW := mj_t2 196 (by decide +kernel) rfl
theorem l14_492 : Cond.methodLink (mj_own.getD 14 "") 492 yJ0_isLatin1_aae02 ∈ mj_GW := mj_t2 200 (by decide +kernel) rfl
theorem l14_505 : Cond.methodLink (mj_own.getD 14 "") 505 yJ0_length_8abf5 ∈ mj_GW := mj_t2 204 (by decide +kernel) rfl
theorem l14_637 : Cond.methodLink (mj_own.getD 14 "") 637 yJ1_indexOf_4cfef ∈ mj_GW := mj_t2 205 (by decide +kernel) rfl
theorem l15_88 : Cond.methodLink (mj_own.getD 15 "") 88 yJ1_canEncode_9a6ad ∈ mj_GW := mj_t2 208 (by decide +kernel) rfl
theorem l15_92 : Cond.methodLink (mj_own.getD 15 "") 92 yJ9_max_7cf53 ∈ mj_GW := mj_t2 211 (by decide +kernel) rfl
theorem l15_38 : Cond.methodLink (mj_own.getD 15 "") 38 yJ9_min_7cf53 ∈ mj_GW := mj_t2 214 (by decide +kernel) rfl
theorem l15_95 : Cond.methodLink (mj_own.getD 15 "") 95 yJ1_indexOfChar_4cfef ∈ mj_GW := mj_t2 217 (by decide +kernel) rfl
theorem l10_123 : Cond.methodLink (mj_own.getD 10 "") 123 yX8_takeNumber ∈ mj_GW := mj_t3 29 (by decide +kernel) rfl
theorem l8_29 : Cond.methodLink (mj_own.getD 8 "") 29 yX8_isDigit ∈ mj_GW := mj_t3 33 (by decide +kernel) rfl
theorem l10_73 : Cond.methodLink (mj_own.getD 10 "") 73 yX10_readBoat ∈ mj_GW := mj_t3 36 (by decide +kernel) rfl
theorem l10_111 : Cond.methodLink (mj_own.getD 10 "") 111 yX3_join ∈ mj_GW := mj_t3 47 (by decide +kernel) rfl
theorem l10_64 : Cond.methodLink (mj_own.getD 10 "") 64 yX10_fits ∈ mj_GW := mj_t3 51 (by decide +kernel) rfl
theorem l10_136 : Cond.methodLink (mj_own.getD 10 "") 136 yX1_hasColumn ∈ mj_GW := mj_t3 55 (by decide +kernel) rfl
theorem l11_121 : Cond.methodLink (mj_own.getD 11 "") 121 yX7_findFault ∈ mj_GW := mj_t3 59 (by decide +kernel) rfl
theorem l7_21 : Cond.methodLink (mj_own.getD 7 "") 21 yX8_rewind ∈ mj_GW := mj_t3 63 (by decide +kernel) rfl
theorem l7_30 : Cond.methodLink (mj_own.getD 7 "") 30 yX7_readClause ∈ mj_GW := mj_t3 64 (by decide +kernel) rfl
theorem l7_37 : Cond.methodLink (mj_own.getD 7 "") 37 yX8_take ∈ mj_GW := mj_t3 68 (by decide +kernel) rfl
theorem l7_41 : Cond.methodLink (mj_own.getD 7 "") 41 yX8_nextSign ∈ mj_GW := mj_t3 69 (by decide +kernel) rfl
theorem l7_45 : Cond.methodLink (mj_own.getD 7 "") 45 yX7_readCondition ∈ mj_GW := mj_t3 70 (by decide +kernel) rfl
theorem l7_63 : Cond.methodLink (mj_own.getD 7 "") 63 yX7_readTruth ∈ mj_GW := mj_t3 74 (by decide +kernel) rfl
theorem l7_66 : Cond.methodLink (mj_own.getD 7 "") 66 yX7_readUnit ∈ mj_GW := mj_t3 78 (by decide +kernel) rfl
theorem l7_59 : Cond.methodLink (mj_own.getD 7 "") 59 yX7_emit ∈ mj_GW := mj_t3 82 (by decide +kernel) rfl
theorem l7_52 : Cond.methodLink (mj_own.getD 7 "") 52 yX7_readSum ∈ mj_GW := mj_t3 86 (by decide +kernel) rfl
theorem l7_69 : Cond.methodLink (mj_own.getD 7 "") 69 yX7_readTerm ∈ mj_GW := mj_t3 90 (by decide +kernel) rfl
theorem l7_72 : Cond.methodLink (mj_own.getD 7 "") 72 yX7_readAtom ∈ mj_GW := mj_t3 94 (by decide +kernel) rfl
theorem l7_77 : Cond.methodLink (mj_own.getD 7 "") 77 yX8_indexIn ∈ mj_GW := mj_t3 99 (by decide +kernel) rfl
theorem l7_81 : Cond.methodLink (mj_own.getD 7 "") 81 yX8_takeNumber ∈ mj_GW := mj_t3 100 (by decide +kernel) rfl
theorem l7_55 : Cond.methodLink (mj_own.getD 7 "") 55 yX7_comparisonOf ∈ mj_GW := mj_t3 101 (by decide +kernel) rfl
theorem l7_49 : Cond.methodLink (mj_own.getD 7 "") 49 yX7_readAnswer ∈ mj_GW := mj_t3 104 (by decide +kernel) rfl
theorem l13_34 : Cond.methodLink (mj_own.getD 13 "") 34 yX11_text ∈ mj_GW := mj_t3 109 (by decide +kernel) rfl
theorem l11_122 : Cond.methodLink (mj_own.getD 11 "") 122 yX11_takeWater ∈ mj_GW := mj_t3 113 (by decide +kernel) rfl
theorem l11_129 : Cond.methodLink (mj_own.getD 11 "") 129 yX1_copyFrom ∈ mj_GW := mj_t3 117 (by decide +kernel) rfl
theorem l11_134 : Cond.methodLink (mj_own.getD 11 "") 134 yX3_copyFrom ∈ mj_GW := mj_t3 122 (by decide +kernel) rfl
theorem l11_137 : Cond.methodLink (mj_own.getD 11 "") 137 yX0_forget ∈ mj_GW := mj_t3 126 (by decide +kernel) rfl
theorem l11_140 : Cond.methodLink (mj_own.getD 11 "") 140 yX5_forget ∈ mj_GW := mj_t3 130 (by decide +kernel) rfl
theorem l11_125 : Cond.methodLink (mj_own.getD 11 "") 125 yX11_takeRule ∈ mj_GW := mj_t3 134 (by decide +kernel) rfl
theorem l11_156 : Cond.methodLink (mj_own.getD 11 "") 156 yX6_add ∈ mj_GW := mj_t3 138 (by decide +kernel) rfl
theorem l13_48 : Cond.methodLink (mj_own.getD 13 "") 48 yX11_line ∈ mj_GW := mj_t3 143 (by decide +kernel) rfl
theorem l11_204 : Cond.methodLink (mj_own.getD 11 "") 204 yX11_hasWater ∈ mj_GW := mj_t3 147 (by decide +kernel) rfl
theorem l13_52 : Cond.methodLink (mj_own.getD 13 "") 52 yX11_rule ∈ mj_GW := mj_t3 151 (by decide +kernel) rfl
theorem l11_160 : Cond.methodLink (mj_own.getD 11 "") 160 yX11_isBoat ∈ mj_GW := mj_t3 155 (by decide +kernel) rfl
theorem l11_211 : Cond.methodLink (mj_own.getD 11 "") 211 yX0_remember ∈ mj_GW := mj_t3 159 (by decide +kernel) rfl
theorem l0_22 : Cond.methodLink (mj_own.getD 0 "") 22 yX3_writeTo ∈ mj_GW := mj_t3 163 (by decide +kernel) rfl
theorem l13_56 : Cond.methodLink (mj_own.getD 13 "") 56 yX11_mark ∈ mj_GW := mj_t3 167 (by decide +kernel) rfl
theorem l13_60 : Cond.methodLink (mj_own.getD 13 "") 60 yX11_speed ∈ mj_GW := mj_t3 171 (by decide +kernel) rfl
theorem l13_64 : Cond.methodLink (mj_own.getD 13 "") 64 yX11_steer ∈ mj_GW := mj_t3 175 (by decide +kernel) rfl
theorem l11_215 : Cond.methodLink (mj_own.getD 11 "") 215 yX1_hasColumn ∈ mj_GW := mj_t3 179 (by decide +kernel) rfl
theorem l11_218 : Cond.methodLink (mj_own.getD 11 "") 218 yX3_isHeld ∈ mj_GW := mj_t3 180 (by decide +kernel) rfl
theorem l13_68 : Cond.methodLink (mj_own.getD 13 "") 68 yX11_gust ∈ mj_GW := mj_t3 184 (by decide +kernel) rfl
theorem l13_72 : Cond.methodLink (mj_own.getD 13 "") 72 yX11_go ∈ mj_GW := mj_t3 188 (by decide +kernel) rfl
theorem l11_225 : Cond.methodLink (mj_own.getD 11 "") 225 yX11_canPass ∈ mj_GW := mj_t3 192 (by decide +kernel) rfl
theorem l11_243 : Cond.methodLink (mj_own.getD 11 "") 243 yX1_secondsLeft ∈ mj_GW := mj_t3 196 (by decide +kernel) rfl
theorem l11_228 : Cond.methodLink (mj_own.getD 11 "") 228 yX4_passSecond ∈ mj_GW := mj_t3 200 (by decide +kernel) rfl
theorem l4_27 : Cond.methodLink (mj_own.getD 4 "") 27 yX4_look ∈ mj_GW := mj_t3 204 (by decide +kernel) rfl
theorem l4_65 : Cond.methodLink (mj_own.getD 4 "") 65 yX3_isShadowed ∈ mj_GW := mj_t3 208 (by decide +kernel) rfl
theorem l3_63 : Cond.methodLink (mj_own.getD 3 "") 63 yX3_isBeside ∈ mj_GW := mj_t3 212 (by decide +kernel) rfl
theorem l4_31 : Cond.methodLink (mj_own.getD 4 "") 31 yX4_askRules ∈ mj_GW := mj_t3 216 (by decide +kernel) rfl
theorem l4_75 : Cond.methodLink (mj_own.getD 4 "") 75 yX6_has ∈ mj_GW := mj_t3 220 (by decide +kernel) rfl
theorem l4_78 : Cond.methodLink (mj_own.getD 4 "") 78 yX3_believedBack ∈ mj_GW := mj_t3 224 (by decide +kernel) rfl
theorem l4_43 : Cond.methodLink (mj_own.getD 4 "") 43 yX1_secondsLeft ∈ mj_GW := mj_t3 228 (by decide +kernel) rfl
theorem l4_85 : Cond.methodLink (mj_own.getD 4 "") 85 yX3_countBeside ∈ mj_GW := mj_t3 229 (by decide +kernel) rfl
theorem l4_88 : Cond.methodLink (mj_own.getD 4 "") 88 yX3_isLeewardHeld ∈ mj_GW := mj_t3 233 (by decide +kernel) rfl
theorem l3_60 : Cond.methodLink (mj_own.getD 3 "") 60 yX3_isHeld ∈ mj_GW := mj_t3 237 (by decide +kernel) rfl
theorem l4_91 : Cond.methodLink (mj_own.getD 4 "") 91 yX6_worthOf ∈ mj_GW := mj_t3 238 (by decide +kernel) rfl
theorem l6_35 : Cond.methodLink (mj_own.getD 6 "") 35 yX6_has ∈ mj_GW := mj_t4 2 (by decide +kernel) rfl
theorem l6_39 : Cond.methodLink (mj_own.getD 6 "") 39 yX6_letterAt ∈ mj_GW := mj_t4 3 (by decide +kernel) rfl
theorem l6_43 : Cond.methodLink (mj_own.getD 6 "") 43 yX6_join ∈ mj_GW := mj_t4 6 (by decide +kernel) rfl
theorem l6_47 : Cond.methodLink (mj_own.getD 6 "") 47 yX6_bounded ∈ mj_GW := mj_t4 9 (by decide +kernel) rfl
theorem l4_57 : Cond.methodLink (mj_own.getD 4 "") 57 yX3_speedUp ∈ mj_GW := mj_t4 16 (by decide +kernel) rfl
theorem l4_95 : Cond.methodLink (mj_own.getD 4 "") 95 yX3_slowDown ∈ mj_GW := mj_t4 20 (by decide +kernel) rfl
theorem l4_35 : Cond.methodLink (mj_own.getD 4 "") 35 yX4_moveAll ∈ mj_GW := mj_t4 24 (by decide +kernel) rfl
theorem l4_103 : Cond.methodLink (mj_own.getD 4 "") 103 yX4_sail ∈ mj_GW := mj_t4 28 (by decide +kernel) rfl
theorem l4_123 : Cond.methodLink (mj_own.getD 4 "") 123 yX3_isHeld ∈ mj_GW := mj_t4 32 (by decide +kernel) rfl
theorem l4_113 : Cond.methodLink (mj_own.getD 4 "") 113 yX4_comesNow ∈ mj_GW := mj_t4 33 (by decide +kernel) rfl
theorem l4_117 : Cond.methodLink (mj_own.getD 4 "") 117 yX4_driftAll ∈ mj_GW := mj_t4 36 (by decide +kernel) rfl
theorem l4_120 : Cond.methodLink (mj_own.getD 4 "") 120 yX4_noteEarly ∈ mj_GW := mj_t4 39 (by decide +kernel) rfl
theorem l13_78 : Cond.methodLink (mj_own.getD 13 "") 78 yX11_blow ∈ mj_GW := mj_t4 42 (by decide +kernel) rfl
theorem l11_235 : Cond.methodLink (mj_own.getD 11 "") 235 yX2_begin ∈ mj_GW := mj_t4 46 (by decide +kernel) rfl
theorem l11_239 : Cond.methodLink (mj_own.getD 11 "") 239 yX4_passGustySecond ∈ mj_GW := mj_t4 50 (by decide +kernel) rfl
theorem l4_39 : Cond.methodLink (mj_own.getD 4 "") 39 yX4_drawGusts ∈ mj_GW := mj_t4 54 (by decide +kernel) rfl
theorem l4_98 : Cond.methodLink (mj_own.getD 4 "") 98 yX2_next ∈ mj_GW := mj_t4 58 (by decide +kernel) rfl
theorem l13_83 : Cond.methodLink (mj_own.getD 13 "") 83 yX11_undo ∈ mj_GW := mj_t4 64 (by decide +kernel) rfl
theorem l11_247 : Cond.methodLink (mj_own.getD 11 "") 247 yX0_takeBack ∈ mj_GW := mj_t4 68 (by decide +kernel) rfl
theorem l0_26 : Cond.methodLink (mj_own.getD 0 "") 26 yX3_readFrom ∈ mj_GW := mj_t4 72 (by decide +kernel) rfl
theorem l13_87 : Cond.methodLink (mj_own.getD 13 "") 87 yX11_ahead ∈ mj_GW := mj_t4 76 (by decide +kernel) rfl
theorem l11_251 : Cond.methodLink (mj_own.getD 11 "") 251 yX4_passToGun ∈ mj_GW := mj_t4 81 (by decide +kernel) rfl
theorem l4_49 : Cond.methodLink (mj_own.getD 4 "") 49 yX4_passSecond ∈ mj_GW := mj_t4 85 (by decide +kernel) rfl
theorem l11_191 : Cond.methodLink (mj_own.getD 11 "") 191 yX1_statusOf ∈ mj_GW := mj_t4 86 (by decide +kernel) rfl
theorem l11_195 : Cond.methodLink (mj_own.getD 11 "") 195 yX1_scoreOf ∈ mj_GW := mj_t4 90 (by decide +kernel) rfl
theorem l1_34 : Cond.methodLink (mj_own.getD 1 "") 34 yX1_worthOfColumn ∈ mj_GW := mj_t4 94 (by decide +kernel) rfl
theorem l1_41 : Cond.methodLink (mj_own.getD 1 "") 41 yX3_isShadowed ∈ mj_GW := mj_t4 98 (by decide +kernel) rfl
theorem l1_45 : Cond.methodLink (mj_own.getD 1 "") 45 yX1_statusOf ∈ mj_GW := mj_t4 99 (by decide +kernel) rfl
theorem l11_198 : Cond.methodLink (mj_own.getD 11 "") 198 yX1_placeOf ∈ mj_GW := mj_t4 100 (by decide +kernel) rfl
theorem l1_49 : Cond.methodLink (mj_own.getD 1 "") 49 yX1_scoreOf ∈ mj_GW := mj_t4 104 (by decide +kernel) rfl
theorem l13_91 : Cond.methodLink (mj_own.getD 13 "") 91 yX11_where ∈ mj_GW := mj_t4 105 (by decide +kernel) rfl
theorem l11_254 : Cond.methodLink (mj_own.getD 11 "") 254 yX11_isChoice ∈ mj_GW := mj_t4 109 (by decide +kernel) rfl
theorem l11_257 : Cond.methodLink (mj_own.getD 11 "") 257 yX11_scoreFrom ∈ mj_GW := mj_t4 112 (by decide +kernel) rfl
theorem l13_95 : Cond.methodLink (mj_own.getD 13 "") 95 yX11_near ∈ mj_GW := mj_t4 116 (by decide +kernel) rfl
theorem l13_99 : Cond.methodLink (mj_own.getD 13 "") 99 yX11_hold ∈ mj_GW := mj_t4 120 (by decide +kernel) rfl
theorem l11_261 : Cond.methodLink (mj_own.getD 11 "") 261 yX4_passToGunReleased ∈ mj_GW := mj_t4 124 (by decide +kernel) rfl
theorem l11_265 : Cond.methodLink (mj_own.getD 11 "") 265 yX4_passHeldSecond ∈ mj_GW := mj_t4 128 (by decide +kernel) rfl
theorem l13_103 : Cond.methodLink (mj_own.getD 13 "") 103 yX11_row ∈ mj_GW := mj_t4 132 (by decide +kernel) rfl
theorem l13_107 : Cond.methodLink (mj_own.getD 13 "") 107 yX11_tides ∈ mj_GW := mj_t4 136 (by decide +kernel) rfl
theorem l13_111 : Cond.methodLink (mj_own.getD 13 "") 111 yX11_sag ∈ mj_GW := mj_t4 140 (by decide +kernel) rfl
theorem l11_268 : Cond.methodLink (mj_own.getD 11 "") 268 yX11_boatsIn ∈ mj_GW := mj_t4 144 (by decide +kernel) rfl
theorem l11_271 : Cond.methodLink (mj_own.getD 11 "") 271 yX1_thirdOf ∈ mj_GW := mj_t4 148 (by decide +kernel) rfl
theorem l11_274 : Cond.methodLink (mj_own.getD 11 "") 274 yX11_greatestCommon ∈ mj_GW := mj_t4 152 (by decide +kernel) rfl
theorem l13_115 : Cond.methodLink (mj_own.getD 13 "") 115 yX11_heap ∈ mj_GW := mj_t4 155 (by decide +kernel) rfl
theorem l13_119 : Cond.methodLink (mj_own.getD 13 "") 119 yX11_hole ∈ mj_GW := mj_t4 159 (by decide +kernel) rfl
theorem l13_123 : Cond.methodLink (mj_own.getD 13 "") 123 yX11_keeps ∈ mj_GW := mj_t4 163 (by decide +kernel) rfl
theorem l11_278 : Cond.methodLink (mj_own.getD 11 "") 278 yX3_isLeewardHeld ∈ mj_GW := mj_t4 167 (by decide +kernel) rfl
theorem l13_127 : Cond.methodLink (mj_own.getD 13 "") 127 yX11_which ∈ mj_GW := mj_t4 168 (by decide +kernel) rfl
theorem l11_281 : Cond.methodLink (mj_own.getD 11 "") 281 yX11_isAmong ∈ mj_GW := mj_t4 172 (by decide +kernel) rfl
theorem l11_284 : Cond.methodLink (mj_own.getD 11 "") 284 yX3_isShadowed ∈ mj_GW := mj_t4 176 (by decide +kernel) rfl
theorem l13_131 : Cond.methodLink (mj_own.getD 13 "") 131 yX11_rests ∈ mj_GW := mj_t4 177 (by decide +kernel) rfl
theorem l11_287 : Cond.methodLink (mj_own.getD 11 "") 287 yX9_set ∈ mj_GW := mj_t4 181 (by decide +kernel) rfl
theorem l11_291 : Cond.methodLink (mj_own.getD 11 "") 291 yX9_countRests ∈ mj_GW := mj_t4 185 (by decide +kernel) rfl
theorem l9_28 : Cond.methodLink (mj_own.getD 9 "") 28 yX9_isRest ∈ mj_GW := mj_t4 189 (by decide +kernel) rfl
theorem l9_40 : Cond.methodLink (mj_own.getD 9 "") 40 yX9_spell ∈ mj_GW := mj_t4 193 (by decide +kernel) rfl
theorem l11_294 : Cond.methodLink (mj_own.getD 11 "") 294 yX9_findRest ∈ mj_GW := mj_t4 197 (by decide +kernel) rfl
theorem l9_32 : Cond.methodLink (mj_own.getD 9 "") 32 yX9_digits ∈ mj_GW := mj_t4 201 (by decide +kernel) rfl
theorem l13_135 : Cond.methodLink (mj_own.getD 13 "") 135 yX11_spread ∈ mj_GW := mj_t4 205 (by decide +kernel) rfl
theorem l11_297 : Cond.methodLink (mj_own.getD 11 "") 297 yX9_fullestOfFirstRest ∈ mj_GW := mj_t4 209 (by decide +kernel) rfl
theorem l9_36 : Cond.methodLink (mj_own.getD 9 "") 36 yX9_findRest ∈ mj_GW := mj_t4 213 (by decide +kernel) rfl
theorem l13_139 : Cond.methodLink (mj_own.getD 13 "") 139 yX11_duel ∈ mj_GW := mj_t4 214 (by decide +kernel) rfl
theorem l11_300 : Cond.methodLink (mj_own.getD 11 "") 300 yX6_has ∈ mj_GW := mj_t4 218 (by decide +kernel) rfl
theorem l11_303 : Cond.methodLink (mj_own.getD 11 "") 303 yX11_duelOf ∈ mj_GW := mj_t4 219 (by decide +kernel) rfl
theorem l11_306 : Cond.methodLink (mj_own.getD 11 "") 306 yX1_setForDuel ∈ mj_GW := mj_t4 223 (by decide +kernel) rfl
theorem l11_309 : Cond.methodLink (mj_own.getD 11 "") 309 yX3_setForDuel ∈ mj_GW := mj_t4 227 (by decide +kernel) rfl
theorem l3_43 : Cond.methodLink (mj_own.getD 3 "") 43 yX3_empty ∈ mj_GW := mj_t4 231 (by decide +kernel) rfl
theorem l3_46 : Cond.methodLink (mj_own.getD 3 "") 46 yX3_joinDuel ∈ mj_GW := mj_t4 232 (by decide +kernel) rfl
theorem l13_143 : Cond.methodLink (mj_own.getD 13 "") 143 yX11_reply ∈ mj_GW := mj_t4 236 (by decide +kernel) rfl
theorem l13_147 : Cond.methodLink (mj_own.getD 13 "") 147 yX11_strong ∈ mj_GW := mj_t5 0 (by decide +kernel) rfl
theorem l13_151 : Cond.methodLink (mj_own.getD 13 "") 151 yX11_picture ∈ mj_GW := mj_t5 4 (by decide +kernel) rfl
theorem l11_312 : Cond.methodLink (mj_own.getD 11 "") 312 yX5_canSee ∈ mj_GW := mj_t5 8 (by decide +kernel) rfl
theorem l11_315 : Cond.methodLink (mj_own.getD 11 "") 315 yX5_addPicture ∈ mj_GW := mj_t5 12 (by decide +kernel) rfl
theorem l13_156 : Cond.methodLink (mj_own.getD 13 "") 156 yX11_was ∈ mj_GW := mj_t5 16 (by decide +kernel) rfl
theorem l11_318 : Cond.methodLink (mj_own.getD 11 "") 318 yX5_isSeen ∈ mj_GW := mj_t5 20 (by decide +kernel) rfl
theorem l13_160 : Cond.methodLink (mj_own.getD 13 "") 160 yX11_race ∈ mj_GW := mj_t5 24 (by decide +kernel) rfl
theorem l11_324 : Cond.methodLink (mj_own.getD 11 "") 324 yX5_addRace ∈ mj_GW := mj_t5 28 (by decide +kernel) rfl
theorem l5_36 : Cond.methodLink (mj_own.getD 5 "") 36 yX1_placeOf ∈ mj_GW := mj_t5 32 (by decide +kernel) rfl
theorem l13_164 : Cond.methodLink (mj_own.getD 13 "") 164 yX11_points ∈ mj_GW := mj_t5 33 (by decide +kernel) rfl
theorem l13_168 : Cond.methodLink (mj_own.getD 13 "") 168 yX11_champion ∈ mj_GW := mj_t5 37 (by decide +kernel) rfl
theorem l13_172 : Cond.methodLink (mj_own.getD 13 "") 172 yX11_season ∈ mj_GW := mj_t5 41 (by decide +kernel) rfl
theorem l11_331 : Cond.methodLink (mj_own.getD 11 "") 331 yX3_scatter ∈ mj_GW := mj_t5 45 (by decide +kernel) rfl
theorem l3_50 : Cond.methodLink (mj_own.getD 3 "") 50 yX2_next ∈ mj_GW := mj_t5 49 (by decide +kernel) rfl
theorem l3_56 : Cond.methodLink (mj_own.getD 3 "") 56 yX3_isRowFull ∈ mj_GW := mj_t5 50 (by decide +kernel) rfl
theorem l13_176 : Cond.methodLink (mj_own.getD 13 "") 176 yX11_flag ∈ mj_GW := mj_t5 54 (by decide +kernel) rfl
theorem l13_180 : Cond.methodLink (mj_own.getD 13 "") 180 yX11_image ∈ mj_GW := mj_t5 58 (by decide +kernel) rfl
theorem l13_184 : Cond.methodLink (mj_own.getD 13 "") 184 yX11_back ∈ mj_GW := mj_t5 62 (by decide +kernel) rfl
theorem l13_188 : Cond.methodLink (mj_own.getD 13 "") 188 yX11_count ∈ mj_GW := mj_t5 66 (by decide +kernel) rfl
theorem l13_38 : Cond.methodLink (mj_own.getD 13 "") 38 yL_boat ∈ mj_GW := mj_t5 70 (by decide +kernel) rfl
theorem l13_7 : Cond.methodLink (mj_own.getD 13 "") 7 yX11_boat ∈ mj_GW := mj_t5 74 (by decide +kernel) rfl
theorem l11_201 : Cond.methodLink (mj_own.getD 11 "") 201 yX3_believedBack ∈ mj_GW := mj_t5 139 (by decide +kernel) rfl
theorem l13_44 : Cond.methodLink (mj_own.getD 13 "") 44 yX12_thrown ∈ mj_GW := mj_t6 43 (by decide +kernel) rfl
theorem l13_23 : Cond.methodLink (mj_own.getD 13 "") 23 yX12_feed ∈ mj_GW := mj_t6 47 (by decide +kernel) rfl
theorem l12_102 : Cond.methodLink (mj_own.getD 12 "") 102 yX12_byteOf ∈ mj_GW := mj_t6 51 (by decide +kernel) rfl
theorem l13_28 : Cond.methodLink (mj_own.getD 13 "") 28 yX12_end ∈ mj_GW := mj_t6 54 (by decide +kernel) rfl
theorem l13_33 : Cond.methodLink (mj_own.getD 13 "") 33 yX12_fault ∈ mj_GW := mj_t6 58 (by decide +kernel) rfl
theorem l12_249 : Cond.methodLink (mj_own.getD 12 "") 249 yX12_readWater ∈ mj_GW := mj_t6 62 (by decide +kernel) rfl
theorem l12_128 : Cond.methodLink (mj_own.getD 12 "") 128 yX12_look ∈ mj_GW := mj_t6 66 (by decide +kernel) rfl
theorem l12_112 : Cond.methodLink (mj_own.getD 12 "") 112 yX12_here ∈ mj_GW := mj_t6 70 (by decide +kernel) rfl
theorem l12_241 : Cond.methodLink (mj_own.getD 12 "") 241 yX12_items ∈ mj_GW := mj_t6 74 (by decide +kernel) rfl
theorem l12_218 : Cond.methodLink (mj_own.getD 12 "") 218 yX12_usual ∈ mj_GW := mj_t6 78 (by decide +kernel) rfl
theorem l12_222 : Cond.methodLink (mj_own.getD 12 "") 222 yX12_itemOf ∈ mj_GW := mj_t6 81 (by decide +kernel) rfl
theorem l12_225 : Cond.methodLink (mj_own.getD 12 "") 225 yX12_has ∈ mj_GW := mj_t6 84 (by decide +kernel) rfl
theorem l12_229 : Cond.methodLink (mj_own.getD 12 "") 229 yX12_lowest ∈ mj_GW := mj_t6 87 (by decide +kernel) rfl
theorem l12_232 : Cond.methodLink (mj_own.getD 12 "") 232 yX12_highest ∈ mj_GW := mj_t6 90 (by decide +kernel) rfl
theorem l12_235 : Cond.methodLink (mj_own.getD 12 "") 235 yX12_number ∈ mj_GW := mj_t6 93 (by decide +kernel) rfl
theorem l12_131 : Cond.methodLink (mj_own.getD 12 "") 131 yX12_isDigit ∈ mj_GW := mj_t6 97 (by decide +kernel) rfl
theorem l12_125 : Cond.methodLink (mj_own.getD 12 "") 125 yX12_bad ∈ mj_GW := mj_t6 100 (by decide +kernel) rfl
theorem l12_214 : Cond.methodLink (mj_own.getD 12 "") 214 yX12_in ∈ mj_GW := mj_t6 104 (by decide +kernel) rfl
theorem l12_245 : Cond.methodLink (mj_own.getD 12 "") 245 yX12_isWhole ∈ mj_GW := mj_t6 107 (by decide +kernel) rfl
theorem l12_252 : Cond.methodLink (mj_own.getD 12 "") 252 yX12_readLaw ∈ mj_GW := mj_t6 111 (by decide +kernel) rfl
theorem l12_180 : Cond.methodLink (mj_own.getD 12 "") 180 yX12_open ∈ mj_GW := mj_t6 115 (by decide +kernel) rfl
theorem l12_183 : Cond.methodLink (mj_own.getD 12 "") 183 yX12_clause ∈ mj_GW := mj_t6 119 (by decide +kernel) rfl
theorem l12_168 : Cond.methodLink (mj_own.getD 12 "") 168 yX12_condition ∈ mj_GW := mj_t6 123 (by decide +kernel) rfl
theorem l12_165 : Cond.methodLink (mj_own.getD 12 "") 165 yX12_unit ∈ mj_GW := mj_t6 127 (by decide +kernel) rfl
theorem l12_146 : Cond.methodLink (mj_own.getD 12 "") 146 yX12_opens ∈ mj_GW := mj_t6 131 (by decide +kernel) rfl
theorem l12_138 : Cond.methodLink (mj_own.getD 12 "") 138 yX12_put ∈ mj_GW := mj_t6 135 (by decide +kernel) rfl
theorem l12_152 : Cond.methodLink (mj_own.getD 12 "") 152 yX12_closes ∈ mj_GW := mj_t6 139 (by decide +kernel) rfl
theorem l12_149 : Cond.methodLink (mj_own.getD 12 "") 149 yX12_sum ∈ mj_GW := mj_t6 143 (by decide +kernel) rfl
theorem l12_159 : Cond.methodLink (mj_own.getD 12 "") 159 yX12_term ∈ mj_GW := mj_t6 147 (by decide +kernel) rfl
theorem l12_156 : Cond.methodLink (mj_own.getD 12 "") 156 yX12_atom ∈ mj_GW := mj_t6 151 (by decide +kernel) rfl
theorem l12_135 : Cond.methodLink (mj_own.getD 12 "") 135 yX12_plainNumber ∈ mj_GW := mj_t6 155 (by decide +kernel) rfl
theorem l12_142 : Cond.methodLink (mj_own.getD 12 "") 142 yX12_letterOf ∈ mj_GW := mj_t6 159 (by decide +kernel) rfl
theorem l12_171 : Cond.methodLink (mj_own.getD 12 "") 171 yX12_compare ∈ mj_GW := mj_t6 162 (by decide +kernel) rfl
theorem l12_162 : Cond.methodLink (mj_own.getD 12 "") 162 yX12_isSign ∈ mj_GW := mj_t6 166 (by decide +kernel) rfl
theorem l12_174 : Cond.methodLink (mj_own.getD 12 "") 174 yX12_goOnAnd ∈ mj_GW := mj_t6 169 (by decide +kernel) rfl
theorem l12_177 : Cond.methodLink (mj_own.getD 12 "") 177 yX12_goOnOr ∈ mj_GW := mj_t6 173 (by decide +kernel) rfl
theorem l12_186 : Cond.methodLink (mj_own.getD 12 "") 186 yX12_atEnd ∈ mj_GW := mj_t6 177 (by decide +kernel) rfl
theorem l13_37 : Cond.methodLink (mj_own.getD 13 "") 37 yX12_text ∈ mj_GW := mj_t6 181 (by decide +kernel) rfl
theorem l12_277 : Cond.methodLink (mj_own.getD 12 "") 277 yX12_takeWater ∈ mj_GW := mj_t6 185 (by decide +kernel) rfl
theorem l12_258 : Cond.methodLink (mj_own.getD 12 "") 258 yX12_begin ∈ mj_GW := mj_t6 189 (by decide +kernel) rfl
theorem l12_274 : Cond.methodLink (mj_own.getD 12 "") 274 yX12_put_ ∈ mj_GW := mj_t6 193 (by decide +kernel) rfl
theorem l13_43 : Cond.methodLink (mj_own.getD 13 "") 43 yX12_boat ∈ mj_GW := mj_t6 197 (by decide +kernel) rfl
theorem l12_306 : Cond.methodLink (mj_own.getD 12 "") 306 yX12_isBoat ∈ mj_GW := mj_t6 201 (by decide +kernel) rfl
theorem l12_283 : Cond.methodLink (mj_own.getD 12 "") 283 yX12_of ∈ mj_GW := mj_t6 205 (by decide +kernel) rfl
theorem l12_309 : Cond.methodLink (mj_own.getD 12 "") 309 yX12_most ∈ mj_GW := mj_t6 209 (by decide +kernel) rfl
theorem l12_292 : Cond.methodLink (mj_own.getD 12 "") 292 yX12_statusBy ∈ mj_GW := mj_t6 213 (by decide +kernel) rfl
theorem l12_312 : Cond.methodLink (mj_own.getD 12 "") 312 yX12_scoreOf ∈ mj_GW := mj_t6 217 (by decide +kernel) rfl
theorem l12_300 : Cond.methodLink (mj_own.getD 12 "") 300 yX12_scoreBy ∈ mj_GW := mj_t6 221 (by decide +kernel) rfl
theorem l12_295 : Cond.methodLink (mj_own.getD 12 "") 295 yJ9_max_7cf53 ∈ mj_GW := mj_t6 225 (by decide +kernel) rfl
theorem l12_297 : Cond.methodLink (mj_own.getD 12 "") 297 yX12_isShadowed ∈ mj_GW := mj_t6 226 (by decide +kernel) rfl
theorem l12_286 : Cond.methodLink (mj_own.getD 12 "") 286 yJ9_abs_0f7a4 ∈ mj_GW := mj_t6 230 (by decide +kernel) rfl
theorem l12_315 : Cond.methodLink (mj_own.getD 12 "") 315 yX12_placeOf ∈ mj_GW := mj_t6 233 (by decide +kernel) rfl
theorem l12_303 : Cond.methodLink (mj_own.getD 12 "") 303 yX12_placeBy ∈ mj_GW := mj_t6 237 (by decide +kernel) rfl
theorem l12_318 : Cond.methodLink (mj_own.getD 12 "") 318 yX12_believed ∈ mj_GW := mj_t7 1 (by decide +kernel) rfl
theorem l13_51 : Cond.methodLink (mj_own.getD 13 "") 51 yX12_line ∈ mj_GW := mj_t7 5 (by decide +kernel) rfl
theorem l13_55 : Cond.methodLink (mj_own.getD 13 "") 55 yX12_rule ∈ mj_GW := mj_t7 9 (by decide +kernel) rfl
theorem l12_358 : Cond.methodLink (mj_own.getD 12 "") 358 yX12_keep ∈ mj_GW := mj_t7 13 (by decide +kernel) rfl
theorem l13_59 : Cond.methodLink (mj_own.getD 13 "") 59 yX12_mark ∈ mj_GW := mj_t7 17 (by decide +kernel) rfl
theorem l13_63 : Cond.methodLink (mj_own.getD 13 "") 63 yX12_speed ∈ mj_GW := mj_t7 21 (by decide +kernel) rfl
theorem l13_67 : Cond.methodLink (mj_own.getD 13 "") 67 yX12_steer ∈ mj_GW := mj_t7 25 (by decide +kernel) rfl
theorem l12_289 : Cond.methodLink (mj_own.getD 12 "") 289 yX12_isHeld ∈ mj_GW := mj_t7 29 (by decide +kernel) rfl
theorem l13_71 : Cond.methodLink (mj_own.getD 13 "") 71 yX12_gust ∈ mj_GW := mj_t7 33 (by decide +kernel) rfl
theorem l13_75 : Cond.methodLink (mj_own.getD 13 "") 75 yX12_go ∈ mj_GW := mj_t7 37 (by decide +kernel) rfl
theorem l12_364 : Cond.methodLink (mj_own.getD 12 "") 364 yX12_areSeconds ∈ mj_GW := mj_t7 41 (by decide +kernel) rfl
theorem l12_323 : Cond.methodLink (mj_own.getD 12 "") 323 yX12_leftSeconds ∈ mj_GW := mj_t7 45 (by decide +kernel) rfl
theorem l12_367 : Cond.methodLink (mj_own.getD 12 "") 367 yX12_pass ∈ mj_GW := mj_t7 49 (by decide +kernel) rfl
theorem l12_352 : Cond.methodLink (mj_own.getD 12 "") 352 yX12_speedAll ∈ mj_GW := mj_t7 53 (by decide +kernel) rfl
theorem l12_337 : Cond.methodLink (mj_own.getD 12 "") 337 yX12_wantsOf ∈ mj_GW := mj_t7 57 (by decide +kernel) rfl
theorem l12_326 : Cond.methodLink (mj_own.getD 12 "") 326 yX12_isLeewardHeld ∈ mj_GW := mj_t7 61 (by decide +kernel) rfl
theorem l12_329 : Cond.methodLink (mj_own.getD 12 "") 329 yX12_worthOf ∈ mj_GW := mj_t7 65 (by decide +kernel) rfl
theorem l12_210 : Cond.methodLink (mj_own.getD 12 "") 210 yX12_workOut ∈ mj_GW := mj_t7 69 (by decide +kernel) rfl
theorem l12_206 : Cond.methodLink (mj_own.getD 12 "") 206 yX12_worked ∈ mj_GW := mj_t7 73 (by decide +kernel) rfl
theorem l12_202 : Cond.methodLink (mj_own.getD 12 "") 202 yX12_bounded ∈ mj_GW := mj_t7 76 (by decide +kernel) rfl
theorem l12_193 : Cond.methodLink (mj_own.getD 12 "") 193 yJ9_min_f86c9 ∈ mj_GW := mj_t7 81 (by decide +kernel) rfl
theorem l12_199 : Cond.methodLink (mj_own.getD 12 "") 199 yJ9_max_f86c9 ∈ mj_GW := mj_t7 84 (by decide +kernel) rfl
theorem l12_332 : Cond.methodLink (mj_own.getD 12 "") 332 yJ6_signum_0f7a4 ∈ mj_GW := mj_t7 87 (by decide +kernel) rfl
theorem l12_340 : Cond.methodLink (mj_own.getD 12 "") 340 yX12_faster ∈ mj_GW := mj_t7 90 (by decide +kernel) rfl
theorem l12_321 : Cond.methodLink (mj_own.getD 12 "") 321 yJ9_min_7cf53 ∈ mj_GW := mj_t7 94 (by decide +kernel) rfl
theorem l12_355 : Cond.methodLink (mj_own.getD 12 "") 355 yX12_goAll ∈ mj_GW := mj_t7 95 (by decide +kernel) rfl
theorem l12_346 : Cond.methodLink (mj_own.getD 12 "") 346 yX12_goOne ∈ mj_GW := mj_t7 99 (by decide +kernel) rfl
theorem l12_349 : Cond.methodLink (mj_own.getD 12 "") 349 yX12_drift ∈ mj_GW := mj_t7 103 (by decide +kernel) rfl
theorem l13_82 : Cond.methodLink (mj_own.getD 13 "") 82 yX12_blow ∈ mj_GW := mj_t7 107 (by decide +kernel) rfl
theorem l12_378 : Cond.methodLink (mj_own.getD 12 "") 378 yX12_draw ∈ mj_GW := mj_t7 111 (by decide +kernel) rfl
theorem l13_86 : Cond.methodLink (mj_own.getD 13 "") 86 yX12_undo ∈ mj_GW := mj_t7 117 (by decide +kernel) rfl
theorem l13_90 : Cond.methodLink (mj_own.getD 13 "") 90 yX12_ahead ∈ mj_GW := mj_t7 121 (by decide +kernel) rfl
theorem l12_382 : Cond.methodLink (mj_own.getD 12 "") 382 yX12_putAside ∈ mj_GW := mj_t7 126 (by decide +kernel) rfl
theorem l12_385 : Cond.methodLink (mj_own.getD 12 "") 385 yX12_toGun ∈ mj_GW := mj_t7 130 (by decide +kernel) rfl
theorem l12_388 : Cond.methodLink (mj_own.getD 12 "") 388 yX12_takeBack ∈ mj_GW := mj_t7 134 (by decide +kernel) rfl
theorem l13_94 : Cond.methodLink (mj_own.getD 13 "") 94 yX12_where ∈ mj_GW := mj_t7 138 (by decide +kernel) rfl
theorem l12_394 : Cond.methodLink (mj_own.getD 12 "") 394 yX12_bestCell ∈ mj_GW := mj_t7 142 (by decide +kernel) rfl
theorem l12_391 : Cond.methodLink (mj_own.getD 12 "") 391 yX12_scoreAtGun ∈ mj_GW := mj_t7 146 (by decide +kernel) rfl
theorem l13_98 : Cond.methodLink (mj_own.getD 13 "") 98 yX12_near ∈ mj_GW := mj_t7 150 (by decide +kernel) rfl
theorem l13_102 : Cond.methodLink (mj_own.getD 13 "") 102 yX12_hold ∈ mj_GW := mj_t7 154 (by decide +kernel) rfl
theorem l13_106 : Cond.methodLink (mj_own.getD 13 "") 106 yX12_row ∈ mj_GW := mj_t7 158 (by decide +kernel) rfl
theorem l13_110 : Cond.methodLink (mj_own.getD 13 "") 110 yX12_tides ∈ mj_GW := mj_t7 162 (by decide +kernel) rfl
theorem l13_114 : Cond.methodLink (mj_own.getD 13 "") 114 yX12_sag ∈ mj_GW := mj_t7 166 (by decide +kernel) rfl
theorem l12_401 : Cond.methodLink (mj_own.getD 12 "") 401 yX12_thirdOf ∈ mj_GW := mj_t7 170 (by decide +kernel) rfl
theorem l12_398 : Cond.methodLink (mj_own.getD 12 "") 398 yX12_divisor ∈ mj_GW := mj_t7 174 (by decide +kernel) rfl
theorem l13_118 : Cond.methodLink (mj_own.getD 13 "") 118 yX12_heap ∈ mj_GW := mj_t7 177 (by decide +kernel) rfl
theorem l13_122 : Cond.methodLink (mj_own.getD 13 "") 122 yX12_hole ∈ mj_GW := mj_t7 181 (by decide +kernel) rfl
theorem l13_126 : Cond.methodLink (mj_own.getD 13 "") 126 yX12_keeps ∈ mj_GW := mj_t7 185 (by decide +kernel) rfl
theorem l13_130 : Cond.methodLink (mj_own.getD 13 "") 130 yX12_which ∈ mj_GW := mj_t7 189 (by decide +kernel) rfl
theorem l13_134 : Cond.methodLink (mj_own.getD 13 "") 134 yX12_rests ∈ mj_GW := mj_t7 193 (by decide +kernel) rfl
theorem l12_407 : Cond.methodLink (mj_own.getD 12 "") 407 yX12_rows ∈ mj_GW := mj_t7 197 (by decide +kernel) rfl
theorem l12_410 : Cond.methodLink (mj_own.getD 12 "") 410 yX12_layThirds ∈ mj_GW := mj_t7 201 (by decide +kernel) rfl
theorem l12_413 : Cond.methodLink (mj_own.getD 12 "") 413 yX12_isRest ∈ mj_GW := mj_t7 205 (by decide +kernel) rfl
theorem l12_404 : Cond.methodLink (mj_own.getD 12 "") 404 yX12_thirdWorth ∈ mj_GW := mj_t7 209 (by decide +kernel) rfl
theorem l13_138 : Cond.methodLink (mj_own.getD 13 "") 138 yX12_spread ∈ mj_GW := mj_t7 213 (by decide +kernel) rfl
theorem l12_416 : Cond.methodLink (mj_own.getD 12 "") 416 yX12_fullest ∈ mj_GW := mj_t7 217 (by decide +kernel) rfl
theorem l13_142 : Cond.methodLink (mj_own.getD 13 "") 142 yX12_duel ∈ mj_GW := mj_t7 221 (by decide +kernel) rfl
theorem l12_419 : Cond.methodLink (mj_own.getD 12 "") 419 yX12_isLaw ∈ mj_GW := mj_t7 225 (by decide +kernel) rfl
theorem l12_422 : Cond.methodLink (mj_own.getD 12 "") 422 yX12_duelOf ∈ mj_GW := mj_t7 229 (by decide +kernel) rfl
theorem l13_146 : Cond.methodLink (mj_own.getD 13 "") 146 yX12_reply ∈ mj_GW := mj_t7 233 (by decide +kernel) rfl
theorem l13_150 : Cond.methodLink (mj_own.getD 13 "") 150 yX12_strong ∈ mj_GW := mj_t7 237 (by decide +kernel) rfl
theorem l12_425 : Cond.methodLink (mj_own.getD 12 "") 425 yX12_sumOfDuels ∈ mj_GW := mj_t8 1 (by decide +kernel) rfl
theorem l13_155 : Cond.methodLink (mj_own.getD 13 "") 155 yX12_picture ∈ mj_GW := mj_t8 5 (by decide +kernel) rfl
theorem l13_159 : Cond.methodLink (mj_own.getD 13 "") 159 yX12_was ∈ mj_GW := mj_t8 9 (by decide +kernel) rfl
theorem l12_428 : Cond.methodLink (mj_own.getD 12 "") 428 yX12_wasSo ∈ mj_GW := mj_t8 13 (by decide +kernel) rfl
theorem l13_163 : Cond.methodLink (mj_own.getD 13 "") 163 yX12_race ∈ mj_GW := mj_t8 17 (by decide +kernel) rfl
theorem l12_431 : Cond.methodLink (mj_own.getD 12 "") 431 yX12_write ∈ mj_GW := mj_t8 21 (by decide +kernel) rfl
theorem l13_167 : Cond.methodLink (mj_own.getD 13 "") 167 yX12_points ∈ mj_GW := mj_t8 25 (by decide +kernel) rfl
theorem l12_434 : Cond.methodLink (mj_own.getD 12 "") 434 yX12_pointsOf ∈ mj_GW := mj_t8 29 (by decide +kernel) rfl
theorem l13_171 : Cond.methodLink (mj_own.getD 13 "") 171 yX12_champion ∈ mj_GW := mj_t8 33 (by decide +kernel) rfl
theorem l13_175 : Cond.methodLink (mj_own.getD 13 "") 175 yX12_season ∈ mj_GW := mj_t8 37 (by decide +kernel) rfl
theorem l12_440 : Cond.methodLink (mj_own.getD 12 "") 440 yX12_drawCell ∈ mj_GW := mj_t8 41 (by decide +kernel) rfl
theorem l12_437 : Cond.methodLink (mj_own.getD 12 "") 437 yX12_isHeldAhead ∈ mj_GW := mj_t8 45 (by decide +kernel) rfl
theorem l13_179 : Cond.methodLink (mj_own.getD 13 "") 179 yX12_flag ∈ mj_GW := mj_t8 49 (by decide +kernel) rfl
theorem l13_183 : Cond.methodLink (mj_own.getD 13 "") 183 yX12_image ∈ mj_GW := mj_t8 53 (by decide +kernel) rfl
theorem l13_187 : Cond.methodLink (mj_own.getD 13 "") 187 yX12_back ∈ mj_GW := mj_t8 57 (by decide +kernel) rfl
theorem l13_191 : Cond.methodLink (mj_own.getD 13 "") 191 yX12_count ∈ mj_GW := mj_t8 61 (by decide +kernel) rfl
/-- the shapes of all cells behind the constructors, the references among them -/
def mS0 : List (Nat × Nat) := [(15, 0), (12, 0), (0, 240), (10, 0), (3, 4), (0, 240), (0, 240), (0, 240), (0, 240), (0, 4), (0, 64), (14, 0), (0, 7), (5, 0), (0, 7), (7, 0), (0, 8), (0, 8), (0, 8), (0, 8), (0, 8), (0, 8), (0, 8), (0, 8), (11, 0), (0, 240), (5, 0), (0, 7), (5, 0), (0, 7), (7, 0), (0, 8), (0, 8), (0, 8), (0, 8), (0, 8), (0, 8), (0, 8), (0, 8), (7, 0), (0, 8), (0, 8), (0, 8), (0, 8), (0, 8), (0, 8), (0, 8), (0, 8), (7, 0), (0, 8), (0, 8), (0, 8), (0, 8), (0, 8), (0, 8), (0, 8), (0, 8), (7, 0), (0, 8), (0, 8), (0, 8), (0, 8), (0, 8), (0, 8), (0, 8), (0, 8), (7, 0), (0, 8), (0, 8), (0, 8), (0, 8), (0, 8), (0, 8), (0, 8), (0, 8), (8, 0), (0, 7), (0, 8), (0, 8), (6, 0), (4, 0), (0, 1960), (13, 0), (0, 5), (0, 3), (0, 3), (9, 0), (0, 8), (0, 8), (0, 8), (0, 8), (16, 0), (0, 240), (0, 2600), (0, 2600), (0, 5), (0, 5), (0, 700), (0, 700), (0, 700), (0, 7), (0, 80), (0, 7), (0, 48), (0, 7), (0, 48), (0, 49), (1, 8), (0, 8), (0, 8), (0, 1960), (0, 49), (0, 8), (0, 7), (0, 12), (0, 12), (0, 12), (0, 12), (0, 320), (0, 49), (2, 1)]
def mR0 : List ((Nat × Nat) × Nat) := [((0, 0), 1), ((0, 1), 3), ((0, 2), 11), ((0, 3), 24), ((0, 4), 26), ((0, 5), 28), ((0, 6), 30), ((0, 7), 39), ((0, 8), 48), ((0, 9), 57), ((0, 10), 66), ((0, 11), 75), ((0, 12), 79), ((0, 13), 80), ((0, 14), 82), ((0, 15), 86), ((1, 0), 2), ((3, 0), 4), ((3, 1), 9), ((3, 2), 10), ((4, 0), 5), ((4, 1), 6), ((4, 2), 7), ((4, 3), 8), ((11, 0), 1), ((11, 1), 12), ((11, 3), 13), ((11, 4), 15), ((13, 0), 14), ((15, 0), 16), ((15, 1), 17), ((15, 2), 18), ((15, 3), 19), ((15, 4), 20), ((15, 5), 21), ((15, 6), 22), ((15, 7), 23), ((24, 0), 1), ((24, 1), 25), ((26, 0), 27), ((28, 0), 29), ((30, 0), 31), ((30, 1), 32), ((30, 2), 33), ((30, 3), 34), ((30, 4), 35), ((30, 5), 36), ((30, 6), 37), ((30, 7), 38), ((39, 0), 40), ((39, 1), 41), ((39, 2), 42), ((39, 3), 43), ((39, 4), 44), ((39, 5), 45), ((39, 6), 46), ((39, 7), 47), ((48, 0), 49), ((48, 1), 50), ((48, 2), 51), ((48, 3), 52), ((48, 4), 53), ((48, 5), 54), ((48, 6), 55), ((48, 7), 56), ((57, 0), 58), ((57, 1), 59), ((57, 2), 60), ((57, 3), 61), ((57, 4), 62), ((57, 5), 63), ((57, 6), 64), ((57, 7), 65), ((66, 0), 67), ((66, 1), 68), ((66, 2), 69), ((66, 3), 70), ((66, 4), 71), ((66, 5), 72), ((66, 6), 73), ((66, 7), 74), ((75, 0), 3), ((75, 1), 76), ((75, 2), 77), ((75, 3), 78), ((80, 0), 81), ((82, 0), 83), ((82, 1), 84), ((82, 2), 85), ((86, 0), 87), ((86, 1), 88), ((86, 2), 89), ((86, 3), 90), ((91, 1), 92), ((91, 6), 93), ((91, 7), 94), ((91, 8), 95), ((91, 9), 96), ((91, 10), 97), ((91, 11), 98), ((91, 12), 99), ((91, 15), 100), ((91, 16), 101), ((91, 17), 102), ((91, 18), 103), ((91, 20), 104), ((91, 21), 105), ((91, 23), 106), ((91, 27), 107), ((91, 28), 108), ((91, 29), 109), ((91, 30), 110), ((91, 33), 111), ((91, 34), 112), ((91, 35), 113), ((91, 36), 114), ((91, 37), 115), ((91, 38), 116), ((91, 39), 117), ((91, 41), 118), ((91, 43), 119)]
end
section
/-! ===== constants: static arrays (cells 1000 on), texts (1010 on), their bytes (1020 on) ===== -/
def mj_kI : List (String × Nat × List Int32) := [("LINE_LEAST", 78, [2, 0, 0, 0, 0, 1, 0]), ("LINE_MOST", 81, [20, 9, 1, 9, 9, 60, 1]), ("LINE_USUAL", 84, [10, 0, 0, 0, 0, 20, 0]), ("BOAT_LEAST", 102, [0, 0, 0, 1, 0, 0]), ("BOAT_MOST", 105, [19, 19, 3, 3, 9, 4]), ("BOAT_USUAL", 108, [0, 5, 0, 2, 5, 4])]
def mj_kS : List (Nat × Nat × String × List Int32) := [(10, 76, "waeudsf", [119, 97, 101, 117, 100, 115, 102]), (10, 100, "xyvmzr", [120, 121, 118, 109, 122, 114]), (7, 75, "btvxcwl", [98, 116, 118, 120, 99, 119, 108])]
def mj_kc (c : Nat) : Option (Nat × List Int32) := if c < 1000 then none else if c < 1010 then (mj_kI[c - 1000]?).map (fun q => (0, q.2.2)) else if c < 1020 then none else (mj_kS[c - 1020]?).map (fun q => (1, q.2.2.2))
/-- static fields that are read: what they hold -/
def mj_gs (o idx : Nat) : Option Value := match o with
  | 10 => (List.lookup idx [(78, 1000), (81, 1001), (84, 1002), (102, 1003), (105, 1004), (108, 1005)] : Option Nat).map .ref
  | 14 => if idx = 38 then some (.int 1) else none
  | _ => none
/-- texts that are loaded -/
def mj_lt (o idx : Nat) : Option Nat := (List.range 3).find? (fun i => decide ((mj_kS[i]?).map (fun q => (q.1, q.2.1)) = some (o, idx)))
set_option maxRecDepth 100000 in
theorem mj_gsT : (List.range 6).all (fun k => match mj_kI[k]? with
  | some q => mj_gw (.fieldLink RX10 q.2.1 RX10 q.1 "[I")
  | none => false) = true := by decide +kernel
theorem mj_gsC : Cond.fieldLink RJ0 38 "java/lang/String" "COMPACT_STRINGS" "Z" ∈ mj_GW := mj_gw_in (by decide +kernel)
theorem mj_gsV : Cond.fieldLink RJ0 9 "java/lang/String" "value" "[B" ∈ mj_GW := mj_gw_in (by decide +kernel)
theorem mj_gsD : Cond.fieldLink RJ0 15 "java/lang/String" "coder" "B" ∈ mj_GW := mj_gw_in (by decide +kernel)
theorem mj_cpS : Cond.static arraycopyName ∈ mj_GW := mj_gw_in (by decide +kernel)
theorem mj_cpN : Cond.native arraycopyName ∈ mj_GW := mj_gw_in (by decide +kernel)
theorem mj_cpI : Cond.initialized "java/lang/System" ∈ mj_GW := mj_gw_in (by decide +kernel)
end
section
/-! ===== BEGIN exceptions that leave a method, and their catching by the caller (launches without stack traces) ===== -/
section VXA
/-! The laws vx_back, vx_callV, vx_callS, vx_callSW, vx_throw0, vx_throwS follow proofs of the library, with one case more: JvmDerived/Free/Laws.lean (Back.of_free), Shelf42/LK1.lean (callV, callS), Shelf/KitTraced.lean (throwNew0V, throwNewS). -/
/-- where a method has thrown q: the class by its name, the cell, what was written, the world -/
def vx_T (XC : String → State → State → Prop) (st : State) (q : Addr) (t : State) (mc ms : Nat) (free : Addr → Prop) : Prop :=
  ∃ (E : String) (ce : Cell) (L : List Loc), XC E st t ∧ t.heap[q]? = some ce ∧ ce.vm = .none ∧ st.vm.findClass E = some ce.cls ∧ st.WarmedH t.vm ∧ st.sameButNew ({ t with vm := st.vm } : State) L mc ms ∧ ∀ z ∈ L, free z.base
def vx_Q (Qc : Array Value → State → Outcome → State → Prop) (XC : String → State → State → Prop) (mc ms : Nat) (free : Addr → Prop) : Array Value → State → Outcome → State → Prop := fun a st o t =>
  (Qc a st o t ∧ ∃ L, FrameEnd st o t L mc ms ∧ ∀ q ∈ L, free q.base) ∨ ∃ q, o = .threw q ∧ vx_T XC st q t mc ms free
/-- a callee that returns or throws -/
def vx_Met (l : Launch) (y : MethodName) (ws : List Cond) (rm : Room) (Pc : Array Value → State → Prop) (Qc : Array Value → State → Outcome → State → Prop) (XC : String → State → State → Prop) (mc ms : Nat) (free : Addr → Prop) : Prop :=
  MetFree l y (headSpec ws rm) Pc (fun _ _ _ _ _ => True) (vx_Q Qc XC mc ms free)
def vx_Post (XC : String → State → State → Prop) (mc ms : Nat) (free : Addr → Prop) : Pt → Array Value → Addr → Pt → Prop := fun A a q B =>
  ∃ (g : JFrame) (mk : MethodId) (t : State) (L : List Loc) (E : String) (ce : Cell), B.U.heap = t.heap ∧ B.U.vm = t.vm ∧ XC E (A.U.calling g mk a) t ∧ t.heap[q]? = some ce ∧ ce.vm = .none ∧ A.U.vm.findClass E = some ce.cls ∧ B.locs = A.locs ++ L ∧ (∀ z ∈ L, free z.base) ∧ B.cells = A.cells + mc ∧ B.slots = A.slots + ms
def vx_Back (l : Launch) (R : Room) (p : Program) (e : Env) (below : List Frame) (s : State) (sargs : Array Value) (y : MethodName) (len W9 : Nat)
    (Pre : Pt → Array Value → Prop) (Post : Pt → Array Value → Option Value → Pt → Prop) (PostX : Pt → Array Value → Addr → Pt → Prop) : Prop :=
  ∀ (m : MethodId) (meth : Method) (c : Code) (A : Pt) (g : JFrame) (ig : Instr) (mk : MethodId) (a : Array Value),
    Stand p l e R s m sargs below meth c A.U A.locs A.cells A.slots → g.method = m → g.locals.size = c.maxLocals → decode c.code g.pc = .ok (ig, len) →
    2 * g.monitorRoom + (g.stack.map fun v => v.category).sum ≤ W9 → A.U.methodNamed? y = some mk → Pre A a →
    (∃ (v : Option Value) (B : Pt), Stand p l e R s m sargs below meth c B.U B.locs B.cells B.slots ∧ Post A a v B ∧
      Steps p.tables e below (doInvoke e (A.U.setTop g) [] mk a).1 (B.U.setTop { g with pc := g.pc + len, stack := v.toList ++ g.stack })) ∨
    (∃ (q : Addr) (B : Pt), Stand p l e R s m sargs below meth c B.U B.locs B.cells B.slots ∧ PostX A a q B ∧
      Steps p.tables e below (doInvoke e (A.U.setTop g) [] mk a).1 ((B.U.setTop g).pushFrame (.throwing q)))
section Payer
variable {l : Launch} {R : Room} {p : Program} {e : Env} {below : List Frame} {s : State} {sargs : Array Value} {y : MethodName} {len W9 : Nat}
theorem vx_back {ws : List Cond} {rm : Room} {Pc : Array Value → State → Prop} {Qc : Array Value → State → Outcome → State → Prop} {XC : String → State → State → Prop} {mc ms : Nat} {free : Addr → Prop} {bytes : ByteArray} {maxL : Nat} {ret : Option FieldType}
    (hM : vx_Met l y ws rm Pc Qc XC mc ms free) (hblind : FrameBlind Pc) (hrc : rm.cells = mc) (hrs : rm.slots = ms)
    (hframes : rm.frames + 1 ≤ R.frames) (hlocals : W9 + (maxL + 11) + rm.locals ≤ R.locals)
    (hws : ∀ w ∈ ws, ∀ a' U, s.WarmedH U.vm → w.before a' U = true) (hcode : Cond.code y bytes maxL ret ∈ ws) (hinit : ∀ a' U, s.WarmedH U.vm → (Cond.initialized y.cls).before a' U = true) :
    vx_Back l R p e below s sargs y len W9 (PreOf R mc ms Pc) (PostOf Qc mc ms free) (vx_Post XC mc ms free) := by
  intro m meth c A g ig mk a X hg hsize hdg hW hn hp
  have h1 : (headSpec ws rm).pre.before a A.U = true := atoms_intro fun w hw => hws w hw _ _ X.warmed
  have h2 : (Cond.code y bytes maxL ret).before a A.U = true := hws _ hcode _ _ X.warmed
  have h3 : (Cond.initialized y.cls).before a A.U = true := hinit _ _ X.warmed
  have h4 : A.cells + (headSpec ws rm).room.cells ≤ R.cells := by rw [show (headSpec ws rm).room.cells = mc from hrc]; exact hp.1
  have h5 : A.slots + (headSpec ws rm).room.slots ≤ R.slots := by rw [show (headSpec ws rm).room.slots = ms from hrs]; exact hp.2.1
  have hPc : Pc a (A.U.calling g mk a) := hblind _ _ _ _ hp.2.2
  obtain ⟨U, Ls, c0, s0⟩ := A
  dsimp only [Pt.U, Pt.locs, Pt.cells, Pt.slots] at h1 h2 h3 h4 h5 X hn hPc ⊢
  obtain ⟨methY, cY, hmY, hcY, -, hlY, -, -, -, -⟩ := Cond.code_spec hn h2
  obtain ⟨kY, hkY, -⟩ := className_of_methodNamed hn
  have hinitY : kY.init = .initialized := Cond.initialized_spec (findClass_of_methodNamed hn) hkY h3
  have h : At U g.method c below := by rw [hg]; exact X.here
  have hlocals9 : W9 + (maxL + 11) + (headSpec ws rm).room.locals ≤ R.locals := hlocals
  have happ : (headSpec ws rm).appliesLoose y e.platform (U.calling g mk a) = true :=
    Spec.appliesLoose_calling (g := g) h hdg hn hkY hinitY
      (X.room_calling (g := g) (R' := (headSpec ws rm).room) hsize hmY hcY hframes (by rw [hlY]; omega) h4 h5) h1
  obtain ⟨mid, hmid⟩ := h.above
  have hfr : (U.setTop g).frames = (.java g :: mid) ++ below := by rw [State.frames_setTop' g h.top, hmid]; rfl
  obtain ⟨o, s₂, hsteps, -, hend, hq⟩ := Steps.callFree hM p X.admits X.cas X.clock (acts := []) hfr happ hPc trivial
  have hq' : vx_Q Qc XC mc ms free a (U.calling g mk a) o s₂ := hq
  rw [State.frames_setTop' g h.top] at hend
  obtain ⟨g₀, hg0⟩ := Option.isSome_iff_exists.mp h.top
  obtain ⟨r, hr⟩ := State.topJava?_eq_some.mp hg0
  have hr' : (({ U with heap := s₂.heap, slotsUsed := s₂.slotsUsed } : State).setVm s₂.vm).frames = .java g₀ :: r := hr
  rcases hq' with ⟨hqc, L, hfe, hL⟩ | ⟨q, rfl, E, ce, L, hx, hce, hcv, hcl, hW₂, hsm, hL⟩
  · obtain ⟨⟨v, rfl⟩, hW₂, e2, q2, q3, q4, q5, q6⟩ := id hfe
    have e3 : s₂ = ({ (U.calling g mk a).setFrames s₂.frames with heap := s₂.heap, slotsUsed := s₂.slotsUsed } : State).setVm s₂.vm := by
      have : s₂ = ({ s₂ with vm := (U.calling g mk a).vm } : State).setVm s₂.vm := rfl
      rw [e2] at this
      exact this
    obtain ⟨c₂, i₂, len₂, hc₂, hd₂, hf₂⟩ := hend
    have hW' : U.WarmedH s₂.vm := hW₂
    have hcc : c₂ = c := by
      have h1 : s₂.code? g.method = U.code? g.method := by
        rw [State.code?_eq, State.code?_eq, hW'.alike.method?]
      exact Option.some.inj (hc₂.symm.trans (h1.trans h.code))
    subst hcc
    have hlen : len₂ = len := by rw [hdg] at hd₂; cases hd₂; rfl
    subst hlen
    have hs₂ : s₂ = (({ U with heap := s₂.heap, slotsUsed := s₂.slotsUsed } : State).setVm s₂.vm).setTop { g with pc := g.pc + len₂, stack := v.toList ++ g.stack } := by
      refine e3.trans ?_
      rw [hf₂, State.calling_eq h.top, State.setFrames_setFrames, State.setTop_of_frames _ hr', hr]
      rfl
    have hsame : U.sameButNew ({ U with heap := s₂.heap, slotsUsed := s₂.slotsUsed } : State) L mc ms := by
      refine ⟨?_, q2, q3, q4, q5, q6⟩
      obtain ⟨t, ht, -⟩ := State.frames_cons hr
      show ({ U with heap := s₂.heap, slotsUsed := s₂.slotsUsed } : State) = { U.setFrames U.frames with heap := s₂.heap, slotsUsed := s₂.slotsUsed }
      rw [State.setFrames_self ht]
    subst hg
    refine Or.inl ⟨v, ⟨(({ U with heap := s₂.heap, slotsUsed := s₂.slotsUsed } : State).setVm s₂.vm), Ls ++ L, c0 + mc, s0 + ms⟩,
      ⟨X.admits, X.cas, X.clock, X.frames, X.room, X.hears, X.method, X.code, (X.here.setHeapUsed s₂.heap s₂.slotsUsed).setVm hW'.alike, X.tail, State.WarmedH.trans X.warmed hW', X.limits, X.bytes, X.same.trans (hsame.setVm s.vm)⟩,
      ⟨g, mk, s₂, L, rfl, rfl, hqc, rfl, hL, rfl, rfl⟩, ?_⟩
    show Steps p.tables e below _ ((({ U with heap := s₂.heap, slotsUsed := s₂.slotsUsed } : State).setVm s₂.vm).setTop { g with pc := g.pc + len₂, stack := v.toList ++ g.stack })
    rw [← hs₂]
    exact hsteps
  · obtain ⟨e2, q2, q3, q4, q5, q6⟩ := id hsm
    have e3 : s₂ = ({ (U.calling g mk a).setFrames s₂.frames with heap := s₂.heap, slotsUsed := s₂.slotsUsed } : State).setVm s₂.vm := by
      have : s₂ = ({ s₂ with vm := (U.calling g mk a).vm } : State).setVm s₂.vm := rfl
      rw [e2] at this
      exact this
    have hf₂ : s₂.frames = .throwing q :: .java g :: U.frames.tail := hend
    have hW' : U.WarmedH s₂.vm := hW₂
    have hs₂ : s₂ = ((({ U with heap := s₂.heap, slotsUsed := s₂.slotsUsed } : State).setVm s₂.vm).setTop g).pushFrame (.throwing q) := by
      refine e3.trans ?_
      rw [hf₂, State.calling_eq h.top, State.setFrames_setFrames, State.pushFrame, State.frames_setTop _ hr', State.setTop_of_frames _ hr', State.setFrames_setFrames, hr]
      rfl
    have hsame : U.sameButNew ({ U with heap := s₂.heap, slotsUsed := s₂.slotsUsed } : State) L mc ms := by
      refine ⟨?_, q2, q3, q4, q5, q6⟩
      obtain ⟨t, ht, -⟩ := State.frames_cons hr
      show ({ U with heap := s₂.heap, slotsUsed := s₂.slotsUsed } : State) = { U.setFrames U.frames with heap := s₂.heap, slotsUsed := s₂.slotsUsed }
      rw [State.setFrames_self ht]
    subst hg
    refine Or.inr ⟨q, ⟨(({ U with heap := s₂.heap, slotsUsed := s₂.slotsUsed } : State).setVm s₂.vm), Ls ++ L, c0 + mc, s0 + ms⟩,
      ⟨X.admits, X.cas, X.clock, X.frames, X.room, X.hears, X.method, X.code, (X.here.setHeapUsed s₂.heap s₂.slotsUsed).setVm hW'.alike, X.tail, State.WarmedH.trans X.warmed hW', X.limits, X.bytes, X.same.trans (hsame.setVm s.vm)⟩,
      ⟨g, mk, s₂, L, E, ce, rfl, rfl, hx, hce, hcv, hcl, rfl, hL, rfl, rfl⟩, ?_⟩
    show Steps p.tables e below _ (((({ U with heap := s₂.heap, slotsUsed := s₂.slotsUsed } : State).setVm s₂.vm).setTop g).pushFrame (.throwing q))
    rw [← hs₂]
    exact hsteps
end Payer
section Calls
variable {p : Program} {l : Launch} {e : Env} {R : Room} {s : State} {m : MethodId} {args : Array Value} {below : List Frame} {meth : Method} {c : Code} {T : State} {locs : List Loc} {cells slots : Nat}
theorem vx_callV (X : Stand p l e R s m args below meth c T locs cells slots) (hexec : p.tables.exec = Jvm.exec) {own C : String} {index : Nat} {y : MethodName} {bytes : ByteArray} {maxL : Nat} {ret : Option FieldType}
    (hown : s.vm.findClass own = some m.cls) (hlink : (Cond.methodLink own index y).before args s = true) (hinst : (Cond.instanceMethod y).before args s = true) (hsel : (Cond.selects C y y).before args s = true)
    (hcode : (Cond.code y bytes maxL ret).before args s = true) (hy : y.cls ≠ "java/lang/invoke/MethodHandle" ∧ y.cls ≠ "java/lang/invoke/VarHandle")
    {W9 : Nat} {Pre : Pt → Array Value → Prop} {Post : Pt → Array Value → Option Value → Pt → Prop} {PostX : Pt → Array Value → Addr → Pt → Prop} (hK : vx_Back l R p e below s args y 3 W9 Pre Post PostX)
    {b : Addr} {cellB : Cell} (hcell : T.heap[b]? = some cellB) (hobj : cellB.vm.isStatics = false) (hcls : s.vm.findClass C = some cellB.cls)
    {g : JFrame} (hg : g.method = m) (hsize : g.locals.size = c.maxLocals) {argsL rest : List Value} (hlen : ∀ sig, parseMethodDescriptor y.desc = some sig → argsL.length = sig.parameters.length)
    (hstack : g.stack = argsL.reverse ++ .ref b :: rest) (hW : 2 * g.monitorRoom + (rest.map fun v => v.category).sum ≤ W9) (hdg : decode c.code g.pc = .ok (.invokevirtual index, 3))
    (hpre : ∀ vm₁, s.WarmedH vm₁ → Pre ⟨T.setVm vm₁, locs, cells, slots⟩ (Value.ref b :: argsL).toArray) :
    (∃ (v : Option Value) (vm₁ : Vm) (B : Pt), s.WarmedH vm₁ ∧ Stand p l e R s m args below meth c B.U B.locs B.cells B.slots ∧ Post ⟨T.setVm vm₁, locs, cells, slots⟩ (Value.ref b :: argsL).toArray v B ∧
      ∀ target, Steps p.tables e below (B.U.setTop { g with pc := g.pc + 3, stack := v.toList ++ rest }) target → Steps p.tables e below (T.setTop g) target) ∨
    (∃ (q : Addr) (vm₁ : Vm) (B : Pt), s.WarmedH vm₁ ∧ Stand p l e R s m args below meth c B.U B.locs B.cells B.slots ∧ PostX ⟨T.setVm vm₁, locs, cells, slots⟩ (Value.ref b :: argsL).toArray q B ∧
      Steps p.tables e below (T.setTop g) ((B.U.setTop { g with stack := rest }).pushFrame (.throwing q))) := by
  obtain ⟨mk, methM, hnamed, hmethM, hstM, habM⟩ := Cond.instanceMethod_spec hinst
  obtain ⟨methM', cM, hmethM', -, -, -, -, -, -, hsigM⟩ := Cond.code_spec hnamed hcode
  cases hmethM.symm.trans hmethM'
  obtain ⟨c2, r2, m2, q1, q2, q3, q4, kP, hkP, hkPi⟩ := Cond.selects_spec hsel
  cases hcls.symm.trans q1
  cases (State.methodFound?_of_named hnamed hy).symm.trans q2
  cases hnamed.symm.trans q3
  have hselP : selectMethod e.platform s.vm cellB.cls mk = .method mk := by rw [Launch.admits_selectMethod X.admits]; exact q4
  obtain ⟨vm₁, X₁, hstep₁⟩ := X.invokevirtual hexec hown hlink hnamed hmethM hstM hkP hkPi hy (a := b) (cell := cellB) hcell
    (fun z h => by rw [h] at hobj; cases hobj) hselP hmethM habM hkP hkPi (g := g) hg (argsL := argsL) (rest := rest) (hlen _ hsigM) hstack hdg
  rcases hK m meth c ⟨T.setVm vm₁, locs, cells, slots⟩ { g with stack := rest } (.invokevirtual index) mk (Value.ref b :: argsL).toArray X₁ hg hsize hdg hW (X₁.named hnamed) (hpre vm₁ X₁.warmed) with ⟨v, B, X', hpost, hsteps⟩ | ⟨q, B, X', hpost, hsteps⟩
  · exact Or.inl ⟨v, vm₁, B, X₁.warmed, X', hpost, fun target h => hstep₁ _ fun acts => by rw [doInvoke_state]; exact hsteps.trans h⟩
  · exact Or.inr ⟨q, vm₁, B, X₁.warmed, X', hpost, hstep₁ _ fun acts => by rw [doInvoke_state]; exact hsteps⟩
theorem vx_callS (X : Stand p l e R s m args below meth c T locs cells slots) (hexec : p.tables.exec = Jvm.exec) {own : String} {index : Nat} {y : MethodName} {bytes : ByteArray} {maxL : Nat} {ret : Option FieldType}
    (hown : s.vm.findClass own = some m.cls) (hlink : (Cond.methodLink own index y).before args s = true) (hstat : (Cond.static y).before args s = true) (hinit : (Cond.initialized y.cls).before args s = true)
    (hcode : (Cond.code y bytes maxL ret).before args s = true) (hy : y.cls ≠ "java/lang/invoke/MethodHandle" ∧ y.cls ≠ "java/lang/invoke/VarHandle")
    {W9 : Nat} {Pre : Pt → Array Value → Prop} {Post : Pt → Array Value → Option Value → Pt → Prop} {PostX : Pt → Array Value → Addr → Pt → Prop} (hK : vx_Back l R p e below s args y 3 W9 Pre Post PostX)
    {g : JFrame} (hg : g.method = m) (hsize : g.locals.size = c.maxLocals) {argsL rest : List Value} (hlen : ∀ sig, parseMethodDescriptor y.desc = some sig → argsL.length = sig.parameters.length)
    (hstack : g.stack = argsL.reverse ++ rest) (hW : 2 * g.monitorRoom + (rest.map fun v => v.category).sum ≤ W9) (hdg : decode c.code g.pc = .ok (.invokestatic index, 3))
    (hpre : ∀ vm₁, s.WarmedH vm₁ → Pre ⟨T.setVm vm₁, locs, cells, slots⟩ argsL.toArray) :
    (∃ (v : Option Value) (vm₁ : Vm) (B : Pt), s.WarmedH vm₁ ∧ Stand p l e R s m args below meth c B.U B.locs B.cells B.slots ∧ Post ⟨T.setVm vm₁, locs, cells, slots⟩ argsL.toArray v B ∧
      ∀ target, Steps p.tables e below (B.U.setTop { g with pc := g.pc + 3, stack := v.toList ++ rest }) target → Steps p.tables e below (T.setTop g) target) ∨
    (∃ (q : Addr) (vm₁ : Vm) (B : Pt), s.WarmedH vm₁ ∧ Stand p l e R s m args below meth c B.U B.locs B.cells B.slots ∧ PostX ⟨T.setVm vm₁, locs, cells, slots⟩ argsL.toArray q B ∧
      Steps p.tables e below (T.setTop g) ((B.U.setTop { g with stack := rest }).pushFrame (.throwing q))) := by
  obtain ⟨mk, hnamed⟩ := Cond.code_named hcode
  obtain ⟨methM, cM, hmethM, -, -, -, -, -, -, hsigM⟩ := Cond.code_spec hnamed hcode
  have hstatic : methM.isStatic = true := Cond.static_spec hnamed hmethM hstat
  obtain ⟨kP, hkP, -⟩ := className_of_methodNamed hnamed
  have hinitP : kP.init = .initialized := Cond.initialized_spec (findClass_of_methodNamed hnamed) hkP hinit
  obtain ⟨vm₁, X₁, hstep₁⟩ := X.invokestatic hexec hown hlink hnamed hmethM hstatic hkP hinitP hy (g := g) hg (argsL := argsL) (rest := rest) (hlen _ hsigM) hstack hdg
  rcases hK m meth c ⟨T.setVm vm₁, locs, cells, slots⟩ { g with stack := rest } (.invokestatic index) mk argsL.toArray X₁ hg hsize hdg hW (X₁.named hnamed) (hpre vm₁ X₁.warmed) with ⟨v, B, X', hpost, hsteps⟩ | ⟨q, B, X', hpost, hsteps⟩
  · exact Or.inl ⟨v, vm₁, B, X₁.warmed, X', hpost, fun target h => hstep₁ _ fun acts => by rw [doInvoke_state]; exact hsteps.trans h⟩
  · exact Or.inr ⟨q, vm₁, B, X₁.warmed, X', hpost, hstep₁ _ fun acts => by rw [doInvoke_state]; exact hsteps⟩
end Calls
theorem vx_cls {s : State} {T : State} {vm₁ : Vm} {E : String} {k : ClassId} (hW : s.WarmedH vm₁) (h : (T.setVm vm₁).vm.findClass E = some k) : s.vm.findClass E = some k := by
  have h1 : vm₁.findClass E = some k := h
  rw [hW.alike.findClass] at h1
  exact h1
/-- the method's frame g, with q thrown over it -/
def vx_W (p : Program) (l : Launch) (e : Env) (R : Room) (s : State) (m : MethodId) (args : Array Value) (below : List Frame) (meth : Method) (c : Code) (H : Heap) (locs : List Loc) (cells slots : Nat) (Q : State → Prop) (g : JFrame) (q : Addr) : Prop :=
  ∀ T : State, T.heap = H → Stand p l e R s m args below meth c T locs cells slots → ∃ t, Steps p.tables e below ((T.setTop g).pushFrame (.throwing q)) t ∧ Q t
def vx_Run (p : Program) (l : Launch) (e : Env) (R : Room) (s : State) (m : MethodId) (args : Array Value) (below : List Frame) (meth : Method) (c : Code) (H : Heap) (locs : List Loc) (cells slots mc ms : Nat) (g : JFrame) (rest : List Value) (Qa : State → Outcome → State → Prop) (XC : String → State → State → Prop) (free : Addr → Prop) : Prop :=
  ∀ T : State, T.heap = H → Stand p l e R s m args below meth c T locs cells slots →
    (∃ (v : Option Value) (st₀ t T' : State) (L : List Loc), st₀.heap = H ∧ Stand p l e R s m args below meth c T' (locs ++ L) (cells + mc) (slots + ms) ∧ (∀ q ∈ L, free q.base) ∧ T'.heap = t.heap ∧ T'.vm = t.vm ∧ Qa st₀ (.returned v) t ∧
      Goes p e below T g T' { g with pc := g.pc + 3, stack := v.toList ++ rest }) ∨
    (∃ (q : Addr) (st₀ t T' : State) (L : List Loc) (E : String) (ce : Cell), st₀.heap = H ∧ Stand p l e R s m args below meth c T' (locs ++ L) (cells + mc) (slots + ms) ∧ (∀ z ∈ L, free z.base) ∧ T'.heap = t.heap ∧ T'.vm = t.vm ∧ XC E st₀ t ∧ t.heap[q]? = some ce ∧ ce.vm = .none ∧ s.vm.findClass E = some ce.cls ∧
      Steps p.tables e below (T.setTop g) ((T'.setTop { g with stack := rest }).pushFrame (.throwing q)))
def vx_X {S : Type} (px : S → Prop) (B : String → S → State → Prop) (A : Nat → Prop) : String → State → State → Prop := fun E st t => ∃ u : S, px u ∧ B E u t ∧ va_F A st t
section Runs
variable {p : Program} {l : Launch} {e : Env} {R : Room} {s : State} {m : MethodId} {args : Array Value} {below : List Frame} {meth : Method} {c : Code} {H : Heap} {locs : List Loc} {cells slots : Nat}
variable {y : MethodName} {bytes cc : ByteArray} {maxL nL mc ms n index : Nat} {ret : Option FieldType} {ws : List Cond} {rm : Room} {Pc : Array Value → State → Prop} {Qc : Array Value → State → Outcome → State → Prop} {XC : String → State → State → Prop} {free : Addr → Prop} {Ts : List Cond} {own C : String} {b : Addr} {As rest : List Value} {g : JFrame}
theorem vx_callBack (cb : CallB R s args own index y bytes maxL ret ws rm mc ms n) (hM : vx_Met l y ws rm Pc Qc XC mc ms free) (hbl : FrameBlind Pc) : vx_Back l R p e below s args y 3 8 (PreOf R mc ms Pc) (PostOf Qc mc ms free) (vx_Post XC mc ms free) := by
  obtain ⟨hrc, hrs, hfr, hlo, hws, hcw, -, hini, -⟩ := cb
  exact vx_back (bytes := bytes) (maxL := maxL) (ret := ret) hM hbl hrc hrs hfr hlo hws hcw (fun a' U hW => word_at hW (Or.inl (by first | rfl | simp [Cond.onTables, Cond.keeps, Cond.steady])) hini)
theorem vx_runV (S : CallFix p m c cc nL s args Ts own) (hM : vx_Met l y ws rm Pc Qc XC mc ms free) (cw : CallW R s args own C index y bytes maxL ret ws rm mc ms n) (hp : PreV s H C b Pc As)
    (hg : g.method = m) (hn : As.length = n) (hsize : g.locals.size = nL) (hstack : g.stack = As.reverse ++ .ref b :: rest) (hW : 2 * g.monitorRoom + (rest.map fun v => v.category).sum ≤ 8) (hdg : decode cc g.pc = .ok (.invokevirtual index, 3)) (hf : cells + mc ≤ R.cells ∧ slots + ms ≤ R.slots) :
    vx_Run p l e R s m args below meth c H locs cells slots mc ms g rest (Qc (Value.ref b :: As).toArray) XC free := by
  have hK : vx_Back l R p e below s args y 3 8 (PreOf R mc ms Pc) (PostOf Qc mc ms free) (vx_Post XC mc ms free) := vx_callBack cw.1 hM hp.1
  obtain ⟨⟨-, -, -, -, -, -, hcode, -, hy, hlen, hl⟩, hin, hse⟩ := cw
  obtain ⟨hx, hb, hml, ho, -⟩ := S
  obtain ⟨-, ⟨cellB, hcB, hoB, hclB⟩, hPc⟩ := hp
  intro T hT X
  rcases vx_callV X hx (C := C) (bytes := bytes) (maxL := maxL) (ret := ret) ho hl hin hse hcode hy hK (by rw [hT]; exact hcB) hoB hclB hg (hsize.trans hml.symm) (argsL := As) (rest := rest) (fun sig h => hn.trans (hlen sig h)) hstack hW (by rw [hb]; exact hdg)
    (fun vm₁ hW₁ => ⟨hf.1, hf.2, hPc (T.setVm vm₁) hT hW₁⟩) with ⟨v, vm₁, ⟨U', l2, c2, s2⟩, hW₁, X', ⟨g', mk, t, L, e1, e2, hq, h1, hL, h2, h3⟩, st⟩ | ⟨q, vm₁, ⟨U', l2, c2, s2⟩, hW₁, X', ⟨g', mk, t, L, E, ce, e1, e2, hq, hce, hcv, hcl, h1, hL, h2, h3⟩, st⟩
  · dsimp only [Pt.U, Pt.locs, Pt.cells, Pt.slots] at X' e1 e2 h1 h2 h3 st
    subst h1; subst h2; subst h3
    exact Or.inl ⟨v, (T.setVm vm₁).calling g' mk (Value.ref b :: As).toArray, t, U', L, hT, X', hL, e1, e2, hq, st⟩
  · dsimp only [Pt.U, Pt.locs, Pt.cells, Pt.slots] at X' e1 e2 h1 h2 h3 st hcl
    subst h1; subst h2; subst h3
    exact Or.inr ⟨q, (T.setVm vm₁).calling g' mk (Value.ref b :: As).toArray, t, U', L, E, ce, hT, X', hL, e1, e2, hq, hce, hcv, vx_cls hW₁ hcl, st⟩
theorem vx_runS (S : CallFix p m c cc nL s args Ts own) (hM : vx_Met l y ws rm Pc Qc XC mc ms free) (cw : CallB R s args own index y bytes maxL ret ws rm mc ms n ∧ (Cond.static y).before args s = true) (hp : PreS s H Pc As)
    (hg : g.method = m) (hn : As.length = n) (hsize : g.locals.size = nL) (hstack : g.stack = As.reverse ++ rest) (hW : 2 * g.monitorRoom + (rest.map fun v => v.category).sum ≤ 8) (hdg : decode cc g.pc = .ok (.invokestatic index, 3)) (hf : cells + mc ≤ R.cells ∧ slots + ms ≤ R.slots) :
    vx_Run p l e R s m args below meth c H locs cells slots mc ms g rest (Qc As.toArray) XC free := by
  have hK : vx_Back l R p e below s args y 3 8 (PreOf R mc ms Pc) (PostOf Qc mc ms free) (vx_Post XC mc ms free) := vx_callBack cw.1 hM hp.1
  obtain ⟨⟨-, -, -, -, -, -, hcode, hini, hy, hlen, hl⟩, hstt⟩ := cw
  obtain ⟨hx, hb, hml, ho, -⟩ := S
  intro T hT X
  rcases vx_callS X hx (bytes := bytes) (maxL := maxL) (ret := ret) ho hl hstt hini hcode hy hK hg (hsize.trans hml.symm) (argsL := As) (rest := rest) (fun sig h => hn.trans (hlen sig h)) hstack hW (by rw [hb]; exact hdg)
    (fun vm₁ hW₁ => ⟨hf.1, hf.2, hp.2 (T.setVm vm₁) hT hW₁⟩) with ⟨v, vm₁, ⟨U', l2, c2, s2⟩, hW₁, X', ⟨g', mk, t, L, e1, e2, hq, h1, hL, h2, h3⟩, st⟩ | ⟨q, vm₁, ⟨U', l2, c2, s2⟩, hW₁, X', ⟨g', mk, t, L, E, ce, e1, e2, hq, hce, hcv, hcl, h1, hL, h2, h3⟩, st⟩
  · dsimp only [Pt.U, Pt.locs, Pt.cells, Pt.slots] at X' e1 e2 h1 h2 h3 st
    subst h1; subst h2; subst h3
    exact Or.inl ⟨v, (T.setVm vm₁).calling g' mk As.toArray, t, U', L, hT, X', hL, e1, e2, hq, st⟩
  · dsimp only [Pt.U, Pt.locs, Pt.cells, Pt.slots] at X' e1 e2 h1 h2 h3 st hcl
    subst h1; subst h2; subst h3
    exact Or.inr ⟨q, (T.setVm vm₁).calling g' mk As.toArray, t, U', L, E, ce, hT, X', hL, e1, e2, hq, hce, hcv, vx_cls hW₁ hcl, st⟩
end Runs
section Rows
variable {p : Program} {l : Launch} {e : Env} {R : Room} {s : State} {m : MethodId} {args : Array Value} {below : List Frame} {meth : Method} {c : Code} {H : Heap} {locs : List Loc} {cells slots : Nat} {Q : State → Prop}
variable {mc ms : Nat} {free : Addr → Prop} {A0 A1 : Nat → Prop} {H0 : Heap} {a : Array Value} {pc : Nat} {ls : Array Slot} {st0 rest : List Value}
theorem vx_keep {st₀ t T' : State} {L : List Loc} (h0 : st₀.heap = H) (e1 : T'.heap = t.heap) (hS : va_S A0 H0 H locs) (hA : ∀ q, q < H.size → A1 q → A0 q) (hf : ∀ q, free q → A0 q) (hL : ∀ q ∈ L, free q.base) (hF : va_F A1 st₀ t) :
    H.size ≤ T'.heap.size ∧ (∀ q : Nat, q < H.size → ¬ A1 q → T'.heap[q]? = H[q]?) ∧ va_S A0 H0 T'.heap (locs ++ L) := by
  obtain ⟨hz, hk⟩ := hF
  rw [h0] at hz hk
  exact ⟨by rw [e1]; exact hz, fun q h1 h2 => by rw [e1]; exact hk q h1 h2,
    ⟨Nat.le_trans hS.1 (by rw [e1]; exact hz), fun q h1 h2 => by rw [e1, hk q (Nat.lt_of_lt_of_le h1 hS.1) (fun z => h2 (hA q (Nat.lt_of_lt_of_le h1 hS.1) z))]; exact hS.2.1 q h1 h2, fun q hq => by
      rcases List.mem_append.mp hq with h | h
      · exact hS.2.2 q h
      · exact hf _ (hL q h)⟩⟩
theorem vx_calli {S SX : Type} {post : Int32 → S → Prop} {px : SX → Prop} {B : S → State → Prop} {BX : String → SX → State → Prop} {AX : Nat → Prop} (hr : vx_Run p l e R s m args below meth c H locs cells slots mc ms (F0 m pc ls st0) rest (va_Qi post B A1 a) (vx_X px BX AX) free) (hS : va_S A0 H0 H locs) (hA : ∀ q, q < H.size → A1 q → A0 q) (hf : ∀ q, free q → A0 q) (hAX : ∀ q, q < H.size → AX q → A0 q)
    (kx : ∀ (E : String) (ce : Cell) (q9 : Addr) (u : SX) (t : State) (H1 : Heap) (locs1 : List Loc), t.heap = H1 → s.vm.Alike t.vm → px u → BX E u t → H.size ≤ H1.size → (∀ q : Nat, q < H.size → ¬ AX q → H1[q]? = H[q]?) → va_S A0 H0 H1 locs1 → H1[q9]? = some ce → ce.vm = .none → s.vm.findClass E = some ce.cls → vx_W p l e R s m args below meth c H1 locs1 (cells + mc) (slots + ms) Q (F0 m pc ls rest) q9)
    (kk : ∀ (r : Int32) (u : S) (t : State) (H1 : Heap) (locs1 : List Loc), t.heap = H1 → s.vm.Alike t.vm → post r u → B u t → H.size ≤ H1.size → (∀ q : Nat, q < H.size → ¬ A1 q → H1[q]? = H[q]?) → va_S A0 H0 H1 locs1 → W p l e R s m args below meth c H1 locs1 (cells + mc) (slots + ms) Q (F0 m (pc + 3) ls (.int r :: rest))) : W p l e R s m args below meth c H locs cells slots Q (F0 m pc ls st0) := by
  intro T hT X
  rcases hr T hT X with ⟨v, st₀, t, T', L, h0, X', hL, e1, e2, ⟨⟨r, u, hv, hp, hb⟩, hF⟩, st⟩ | ⟨q, st₀, t, T', L, E, ce, h0, X', hL, e1, e2, ⟨u, hp, hb, hF⟩, hce, hcv, hcl, st⟩
  · cases hv
    obtain ⟨k1, k2, k3⟩ := vx_keep h0 e1 hS hA hf hL hF
    obtain ⟨t2, a1, b1⟩ := kk r u t T'.heap (locs ++ L) e1.symm (by rw [← e2]; exact X'.warmed.alike) hp hb k1 k2 k3 T' rfl X'
    exact ⟨t2, st t2 a1, b1⟩
  · obtain ⟨k1, k2, k3⟩ := vx_keep h0 e1 hS hAX hf hL hF
    obtain ⟨t2, a1, b1⟩ := kx E ce q u t T'.heap (locs ++ L) e1.symm (by rw [← e2]; exact X'.warmed.alike) hp hb k1 k2 k3 (by rw [e1]; exact hce) hcv hcl T' rfl X'
    exact ⟨t2, st.trans a1, b1⟩
theorem vx_calll {S SX : Type} {post : Int64 → S → Prop} {px : SX → Prop} {B : S → State → Prop} {BX : String → SX → State → Prop} {AX : Nat → Prop} (hr : vx_Run p l e R s m args below meth c H locs cells slots mc ms (F0 m pc ls st0) rest (va_Ql post B A1 a) (vx_X px BX AX) free) (hS : va_S A0 H0 H locs) (hA : ∀ q, q < H.size → A1 q → A0 q) (hf : ∀ q, free q → A0 q) (hAX : ∀ q, q < H.size → AX q → A0 q)
    (kx : ∀ (E : String) (ce : Cell) (q9 : Addr) (u : SX) (t : State) (H1 : Heap) (locs1 : List Loc), t.heap = H1 → s.vm.Alike t.vm → px u → BX E u t → H.size ≤ H1.size → (∀ q : Nat, q < H.size → ¬ AX q → H1[q]? = H[q]?) → va_S A0 H0 H1 locs1 → H1[q9]? = some ce → ce.vm = .none → s.vm.findClass E = some ce.cls → vx_W p l e R s m args below meth c H1 locs1 (cells + mc) (slots + ms) Q (F0 m pc ls rest) q9)
    (kk : ∀ (r : Int64) (u : S) (t : State) (H1 : Heap) (locs1 : List Loc), t.heap = H1 → s.vm.Alike t.vm → post r u → B u t → H.size ≤ H1.size → (∀ q : Nat, q < H.size → ¬ A1 q → H1[q]? = H[q]?) → va_S A0 H0 H1 locs1 → W p l e R s m args below meth c H1 locs1 (cells + mc) (slots + ms) Q (F0 m (pc + 3) ls (.long r :: rest))) : W p l e R s m args below meth c H locs cells slots Q (F0 m pc ls st0) := by
  intro T hT X
  rcases hr T hT X with ⟨v, st₀, t, T', L, h0, X', hL, e1, e2, ⟨⟨r, u, hv, hp, hb⟩, hF⟩, st⟩ | ⟨q, st₀, t, T', L, E, ce, h0, X', hL, e1, e2, ⟨u, hp, hb, hF⟩, hce, hcv, hcl, st⟩
  · cases hv
    obtain ⟨k1, k2, k3⟩ := vx_keep h0 e1 hS hA hf hL hF
    obtain ⟨t2, a1, b1⟩ := kk r u t T'.heap (locs ++ L) e1.symm (by rw [← e2]; exact X'.warmed.alike) hp hb k1 k2 k3 T' rfl X'
    exact ⟨t2, st t2 a1, b1⟩
  · obtain ⟨k1, k2, k3⟩ := vx_keep h0 e1 hS hAX hf hL hF
    obtain ⟨t2, a1, b1⟩ := kx E ce q u t T'.heap (locs ++ L) e1.symm (by rw [← e2]; exact X'.warmed.alike) hp hb k1 k2 k3 (by rw [e1]; exact hce) hcv hcl T' rfl X'
    exact ⟨t2, st.trans a1, b1⟩
theorem vx_callf {S SX : Type} {post : UInt32 → S → Prop} {px : SX → Prop} {B : S → State → Prop} {BX : String → SX → State → Prop} {AX : Nat → Prop} (hr : vx_Run p l e R s m args below meth c H locs cells slots mc ms (F0 m pc ls st0) rest (va_Qf post B A1 a) (vx_X px BX AX) free) (hS : va_S A0 H0 H locs) (hA : ∀ q, q < H.size → A1 q → A0 q) (hf : ∀ q, free q → A0 q) (hAX : ∀ q, q < H.size → AX q → A0 q)
    (kx : ∀ (E : String) (ce : Cell) (q9 : Addr) (u : SX) (t : State) (H1 : Heap) (locs1 : List Loc), t.heap = H1 → s.vm.Alike t.vm → px u → BX E u t → H.size ≤ H1.size → (∀ q : Nat, q < H.size → ¬ AX q → H1[q]? = H[q]?) → va_S A0 H0 H1 locs1 → H1[q9]? = some ce → ce.vm = .none → s.vm.findClass E = some ce.cls → vx_W p l e R s m args below meth c H1 locs1 (cells + mc) (slots + ms) Q (F0 m pc ls rest) q9)
    (kk : ∀ (r : UInt32) (u : S) (t : State) (H1 : Heap) (locs1 : List Loc), t.heap = H1 → s.vm.Alike t.vm → post r u → B u t → H.size ≤ H1.size → (∀ q : Nat, q < H.size → ¬ A1 q → H1[q]? = H[q]?) → va_S A0 H0 H1 locs1 → W p l e R s m args below meth c H1 locs1 (cells + mc) (slots + ms) Q (F0 m (pc + 3) ls (.float r :: rest))) : W p l e R s m args below meth c H locs cells slots Q (F0 m pc ls st0) := by
  intro T hT X
  rcases hr T hT X with ⟨v, st₀, t, T', L, h0, X', hL, e1, e2, ⟨⟨r, u, hv, hp, hb⟩, hF⟩, st⟩ | ⟨q, st₀, t, T', L, E, ce, h0, X', hL, e1, e2, ⟨u, hp, hb, hF⟩, hce, hcv, hcl, st⟩
  · cases hv
    obtain ⟨k1, k2, k3⟩ := vx_keep h0 e1 hS hA hf hL hF
    obtain ⟨t2, a1, b1⟩ := kk r u t T'.heap (locs ++ L) e1.symm (by rw [← e2]; exact X'.warmed.alike) hp hb k1 k2 k3 T' rfl X'
    exact ⟨t2, st t2 a1, b1⟩
  · obtain ⟨k1, k2, k3⟩ := vx_keep h0 e1 hS hAX hf hL hF
    obtain ⟨t2, a1, b1⟩ := kx E ce q u t T'.heap (locs ++ L) e1.symm (by rw [← e2]; exact X'.warmed.alike) hp hb k1 k2 k3 (by rw [e1]; exact hce) hcv hcl T' rfl X'
    exact ⟨t2, st.trans a1, b1⟩
theorem vx_calld {S SX : Type} {post : UInt64 → S → Prop} {px : SX → Prop} {B : S → State → Prop} {BX : String → SX → State → Prop} {AX : Nat → Prop} (hr : vx_Run p l e R s m args below meth c H locs cells slots mc ms (F0 m pc ls st0) rest (va_Qd post B A1 a) (vx_X px BX AX) free) (hS : va_S A0 H0 H locs) (hA : ∀ q, q < H.size → A1 q → A0 q) (hf : ∀ q, free q → A0 q) (hAX : ∀ q, q < H.size → AX q → A0 q)
    (kx : ∀ (E : String) (ce : Cell) (q9 : Addr) (u : SX) (t : State) (H1 : Heap) (locs1 : List Loc), t.heap = H1 → s.vm.Alike t.vm → px u → BX E u t → H.size ≤ H1.size → (∀ q : Nat, q < H.size → ¬ AX q → H1[q]? = H[q]?) → va_S A0 H0 H1 locs1 → H1[q9]? = some ce → ce.vm = .none → s.vm.findClass E = some ce.cls → vx_W p l e R s m args below meth c H1 locs1 (cells + mc) (slots + ms) Q (F0 m pc ls rest) q9)
    (kk : ∀ (r : UInt64) (u : S) (t : State) (H1 : Heap) (locs1 : List Loc), t.heap = H1 → s.vm.Alike t.vm → post r u → B u t → H.size ≤ H1.size → (∀ q : Nat, q < H.size → ¬ A1 q → H1[q]? = H[q]?) → va_S A0 H0 H1 locs1 → W p l e R s m args below meth c H1 locs1 (cells + mc) (slots + ms) Q (F0 m (pc + 3) ls (.double r :: rest))) : W p l e R s m args below meth c H locs cells slots Q (F0 m pc ls st0) := by
  intro T hT X
  rcases hr T hT X with ⟨v, st₀, t, T', L, h0, X', hL, e1, e2, ⟨⟨r, u, hv, hp, hb⟩, hF⟩, st⟩ | ⟨q, st₀, t, T', L, E, ce, h0, X', hL, e1, e2, ⟨u, hp, hb, hF⟩, hce, hcv, hcl, st⟩
  · cases hv
    obtain ⟨k1, k2, k3⟩ := vx_keep h0 e1 hS hA hf hL hF
    obtain ⟨t2, a1, b1⟩ := kk r u t T'.heap (locs ++ L) e1.symm (by rw [← e2]; exact X'.warmed.alike) hp hb k1 k2 k3 T' rfl X'
    exact ⟨t2, st t2 a1, b1⟩
  · obtain ⟨k1, k2, k3⟩ := vx_keep h0 e1 hS hAX hf hL hF
    obtain ⟨t2, a1, b1⟩ := kx E ce q u t T'.heap (locs ++ L) e1.symm (by rw [← e2]; exact X'.warmed.alike) hp hb k1 k2 k3 (by rw [e1]; exact hce) hcv hcl T' rfl X'
    exact ⟨t2, st.trans a1, b1⟩
theorem vx_callv {S SX : Type} {post : S → Prop} {px : SX → Prop} {B : S → State → Prop} {BX : String → SX → State → Prop} {AX : Nat → Prop} (hr : vx_Run p l e R s m args below meth c H locs cells slots mc ms (F0 m pc ls st0) rest (va_Qv post B A1 a) (vx_X px BX AX) free) (hS : va_S A0 H0 H locs) (hA : ∀ q, q < H.size → A1 q → A0 q) (hf : ∀ q, free q → A0 q) (hAX : ∀ q, q < H.size → AX q → A0 q)
    (kx : ∀ (E : String) (ce : Cell) (q9 : Addr) (u : SX) (t : State) (H1 : Heap) (locs1 : List Loc), t.heap = H1 → s.vm.Alike t.vm → px u → BX E u t → H.size ≤ H1.size → (∀ q : Nat, q < H.size → ¬ AX q → H1[q]? = H[q]?) → va_S A0 H0 H1 locs1 → H1[q9]? = some ce → ce.vm = .none → s.vm.findClass E = some ce.cls → vx_W p l e R s m args below meth c H1 locs1 (cells + mc) (slots + ms) Q (F0 m pc ls rest) q9)
    (kk : ∀ (u : S) (t : State) (H1 : Heap) (locs1 : List Loc), t.heap = H1 → s.vm.Alike t.vm → post u → B u t → H.size ≤ H1.size → (∀ q : Nat, q < H.size → ¬ A1 q → H1[q]? = H[q]?) → va_S A0 H0 H1 locs1 → W p l e R s m args below meth c H1 locs1 (cells + mc) (slots + ms) Q (F0 m (pc + 3) ls (rest))) : W p l e R s m args below meth c H locs cells slots Q (F0 m pc ls st0) := by
  intro T hT X
  rcases hr T hT X with ⟨v, st₀, t, T', L, h0, X', hL, e1, e2, ⟨⟨u, hv, hp, hb⟩, hF⟩, st⟩ | ⟨q, st₀, t, T', L, E, ce, h0, X', hL, e1, e2, ⟨u, hp, hb, hF⟩, hce, hcv, hcl, st⟩
  · cases hv
    obtain ⟨k1, k2, k3⟩ := vx_keep h0 e1 hS hA hf hL hF
    obtain ⟨t2, a1, b1⟩ := kk u t T'.heap (locs ++ L) e1.symm (by rw [← e2]; exact X'.warmed.alike) hp hb k1 k2 k3 T' rfl X'
    exact ⟨t2, st t2 a1, b1⟩
  · obtain ⟨k1, k2, k3⟩ := vx_keep h0 e1 hS hAX hf hL hF
    obtain ⟨t2, a1, b1⟩ := kx E ce q u t T'.heap (locs ++ L) e1.symm (by rw [← e2]; exact X'.warmed.alike) hp hb k1 k2 k3 (by rw [e1]; exact hce) hcv hcl T' rfl X'
    exact ⟨t2, st.trans a1, b1⟩
/-- caught by the row x of this method's table; the rows ahead don't take it -/
theorem vx_catch {own name : String} {E : String} {ce : Cell} {q : Addr} (hown : s.vm.findClass own = some m.cls) (pre : List ExceptionTableEntry) (x : ExceptionTableEntry) (suf : List ExceptionTableEntry) (hsplit : c.exceptionTable.toList = pre ++ x :: suf)
    (hpass : ∀ z ∈ pre, covers z pc = false ∨ (z.catchType ≠ 0 ∧ ∃ nm : String, (Cond.classLink own z.catchType nm).before args s = true ∧ va_Nc E nm s)) (hx : covers x pc = true) (h0 : x.catchType ≠ 0)
    (hlink : (Cond.classLink own x.catchType name).before args s = true) (hcast : (Cond.castable E name).before args s = true) (hcell : H[q]? = some ce) (hv : ce.vm = .none) (hcl : s.vm.findClass E = some ce.cls)
    (kk : W p l e R s m args below meth c H locs cells slots Q (F0 m x.handlerPc ls [.ref q])) : vx_W p l e R s m args below meth c H locs cells slots Q (F0 m pc ls rest) q := by
  intro T hT X
  have hpl : e.platform.magicAccessors = ({} : Platform).magicAccessors := by rw [X.admits.platform]
  obtain ⟨c3, c4, hc3, hc4, hasg⟩ := Cond.castable_spec hcast
  cases Option.some.inj (hc3.symm.trans hcl)
  obtain ⟨c5, hc5, hcl5⟩ := Cond.classLink_spec hown hlink e.platform hpl
  cases Option.some.inj (hc4.symm.trans hc5)
  obtain ⟨vm', X', st⟩ := X.thenCaughtThrough q (g := F0 m pc ls rest) rfl (Steps.refl _) (by rw [hT]; exact hcell) (by rw [hv]; rfl) (by obtain ⟨k9, h9, -⟩ := Vm.findClass_spec hcl; exact ⟨k9, h9⟩) pre x suf hsplit
    (fun z hz => by
      rcases hpass z hz with h | ⟨hz0, nm, hl1, hn1⟩
      · exact Or.inl h
      · obtain ⟨c6, hc6, hcl6⟩ := Cond.classLink_spec hown hl1 e.platform hpl
        obtain ⟨a8, b8, h1, h2, h3⟩ := hn1
        cases Option.some.inj (h1.symm.trans hcl)
        cases Option.some.inj (h2.symm.trans hc6)
        exact Or.inr ⟨hz0, _, hcl6, h3⟩) hx (Or.inr ⟨h0, c4, hcl5, hasg⟩)
  obtain ⟨t, a1, b1⟩ := kk (T.setVm vm') hT X'
  exact ⟨t, st.trans a1, b1⟩
end Rows
section Ends
variable {p : Program} {l : Launch} {e : Env} {R : Room} {s : State} {m : MethodId} {args : Array Value} {below : List Frame} {meth : Method} {c : Code} {H : Heap} {locs : List Loc} {cells slots : Nat} {Q : State → Prop}
variable {mc ms : Nat} {free : Addr → Prop} {A0 A1 : Nat → Prop} {H0 : Heap} {a : Array Value} {ls : Array Slot} {st0 rest : List Value}
variable {Qc : Array Value → State → Outcome → State → Prop} {XC : String → State → State → Prop}
/-- what a body that may throw owes at its end -/
def vx_MQ (below : List Frame) (Qc : Array Value → State → Outcome → State → Prop) (XC : String → State → State → Prop) (a : Array Value) (s : State) (mc ms : Nat) (free : Addr → Prop) : State → Prop := fun t =>
  ∃ o, t.status = .running ∧ Ended t below o ∧ vx_Q Qc XC mc ms free a s o t
theorem vx_ret {g : JFrame} {mc ms : Nat} (k : W p l e R s m args below meth c H locs cells slots (MQ below Qc args s mc ms free) g) : W p l e R s m args below meth c H locs cells slots (vx_MQ below Qc XC args s mc ms free) g := by
  intro T hT X
  obtain ⟨t, a1, o, b1, b2, b3, b4⟩ := k T hT X
  exact ⟨t, a1, o, b1, b2, Or.inl ⟨b3, b4⟩⟩
/-- not caught here: it goes on to the caller -/
theorem vx_widen {g : JFrame} {q : Addr} {k n : Nat} (h1 : cells ≤ k) (h2 : slots ≤ n) (kk : vx_W p l e R s m args below meth c H locs k n Q g q) : vx_W p l e R s m args below meth c H locs cells slots Q g q := fun T hT X => kk T hT (stand_widen X h1 h2)
theorem vx_out {pc : Nat} {E : String} {ce : Cell} {q : Addr} {mc ms : Nat} (hout : ∀ x ∈ c.exceptionTable.toList, covers x pc = false) (hlocks : meth.locks = false) (hcell : H[q]? = some ce) (hv : ce.vm = .none) (hcl : s.vm.findClass E = some ce.cls)
    (hx : ∀ t : State, t.heap = H → s.vm.Alike t.vm → XC E s t) (hf : ∀ z ∈ locs, free z.base) (hc : cells ≤ mc) (hs : slots ≤ ms) :
    vx_W p l e R s m args below meth c H locs cells slots (vx_MQ below Qc XC args s mc ms free) (F0 m pc ls rest) q := by
  intro T hT X
  obtain ⟨st1, hrun, hend, hW, hsm⟩ := X.leaveThrown q (g := F0 m pc ls rest) rfl rfl rfl hout hlocks
  have hcell9 : (T.setFrames (.throwing q :: below)).heap[q]? = some ce := by
    show T.heap[q]? = some ce
    rw [hT]; exact hcell
  exact ⟨_, st1, .threw q, hrun, hend, Or.inr ⟨q, rfl, E, ce, locs, hx _ hT hW.alike, hcell9, hv, hcl, hW, hsm.mono hc hs, hf⟩⟩
theorem vx_frame {U : State} {k n : Nat} (h : s.sameButNew ({ U with vm := s.vm } : State) locs k n) : s.heap.size ≤ U.heap.size ∧ ∀ q : Nat, q < s.heap.size → (∀ z ∈ locs, z.base ≠ q) → U.heap[q]? = s.heap[q]? := by
  obtain ⟨-, h2, -, -, -, h6⟩ := h
  refine ⟨h2, fun q hq hz => ?_⟩
  obtain ⟨c9, e1, e2, e3, e4⟩ := h6 q _ (Array.getElem?_eq_getElem hq)
  have hs : c9.slots = (s.heap[q]).slots := Array.ext_getElem? fun i => e4 i fun hm => hz _ hm rfl
  have h9 : c9 = s.heap[q] := by
    rw [hs] at e2
    exact e2
  have e5 : U.heap[q]? = some c9 := e1
  rw [e5, h9, Array.getElem?_eq_getElem hq]
/-- the words of a throw but the four that speak of the heap -/
def vx_no (w : Cond) : Bool := decide (w ≠ .isRef (.static Bundle.tN "UNASSIGNED_STACK" Bundle.steD)) && decide (w ≠ .isRef (.static Bundle.tN "SUPPRESSED_SENTINEL" Bundle.listD)) && decide (w ≠ .laysStatic Bundle.tN "UNASSIGNED_STACK" Bundle.steD) && decide (w ≠ .laysStatic Bundle.tN "SUPPRESSED_SENTINEL" Bundle.listD)
def vx_at0 (own : String) (ic : Nat) (X : String) (names : List String) : List Cond := (Bundle.ownAtoms0 own ic X names).filter vx_no
def vx_atS (own : String) (ic : Nat) (X : String) (names : List String) : List Cond := (Bundle.ownAtoms own ic X names).filter vx_no
/-- a word that the tables alone decide, or a good one -/
def vx_ot (w : Cond) : Bool := w.onTables || goodWord w
theorem vx_ot_at {args a' : Array Value} {s U : State} {w : Cond} (hW : s.WarmedH U.vm) (hvm : s.vm = U.vm) (hg : vx_ot w = true) (h : w.before args s = true) : w.before a' U = true := by
  simp only [vx_ot, Bool.or_eq_true] at hg
  rcases hg with hg | hg
  · exact va_tabs hg hvm h
  · exact word_at hW (good_of_word hg) h
/-- a list's words: the good ones out of the method's own list, the others by premises of their own -/
theorem vx_hat {args : Array Value} {s : State} {L B : List Cond} (h1 : ∀ w ∈ L.filter goodWord, w.before args s = true) (h2 : ∀ w ∈ L.filter (fun w => !goodWord w), w ∈ B) (h3 : ∀ w ∈ B, w.before args s = true) : ∀ w ∈ L, w.before args s = true := by
  intro w hw
  by_cases g : goodWord w = true
  · exact h1 w (List.mem_filter.mpr ⟨hw, g⟩)
  · refine h3 w (h2 w (List.mem_filter.mpr ⟨hw, ?_⟩))
    show (!goodWord w) = true
    cases hgw : goodWord w
    · rfl
    · exact absurd hgw g
theorem vx_c {args : Array Value} {s : State} {w : Cond} {B : List Cond} (h : w.before args s = true) (t : ∀ w ∈ B, w.before args s = true) : ∀ w' ∈ w :: B, w'.before args s = true := fun w' h' => (List.mem_cons.mp h').elim (fun e => by rw [e]; exact h) (t w')
theorem vx_n {args : Array Value} {s : State} : ∀ w ∈ ([] : List Cond), w.before args s = true := fun _ h => nomatch h
theorem vx_own {args : Array Value} {s : State} {L : List Cond} (h1 : ∀ w ∈ L.filter vx_no, w.before args s = true)
    (hU : (Cond.isRef (.static Bundle.tN "UNASSIGNED_STACK" Bundle.steD)).before args s = true) (hN : (Cond.isRef (.static Bundle.tN "SUPPRESSED_SENTINEL" Bundle.listD)).before args s = true)
    (lU : (Cond.laysStatic Bundle.tN "UNASSIGNED_STACK" Bundle.steD).before args s = true) (lN : (Cond.laysStatic Bundle.tN "SUPPRESSED_SENTINEL" Bundle.listD).before args s = true) : ∀ w ∈ L, w.before args s = true := by
  intro w hw
  by_cases e1 : w = .isRef (.static Bundle.tN "UNASSIGNED_STACK" Bundle.steD)
  · rw [e1]; exact hU
  · by_cases e2 : w = .isRef (.static Bundle.tN "SUPPRESSED_SENTINEL" Bundle.listD)
    · rw [e2]; exact hN
    · by_cases e3 : w = .laysStatic Bundle.tN "UNASSIGNED_STACK" Bundle.steD
      · rw [e3]; exact lU
      · by_cases e4 : w = .laysStatic Bundle.tN "SUPPRESSED_SENTINEL" Bundle.listD
        · rw [e4]; exact lN
        · exact h1 w (List.mem_filter.mpr ⟨hw, by unfold vx_no; rw [decide_eq_true e1, decide_eq_true e2, decide_eq_true e3, decide_eq_true e4]; rfl⟩)
/-- where a static field lies, its class's statics cell in H -/
def vx_L (C n d : String) (A : Nat → Prop) (U : State) (H : Heap) : Prop := ∃ (c : ClassId) (k : Class) (i : Nat) (f : Field) (a : Nat) (cell : Cell), U.vm.findClass C = some c ∧ U.fieldFound? C n d = some (c, k, i, f) ∧ f.isStatic = true ∧ k.statics = some a ∧ H[a]? = some cell ∧ cell.vm.isStatics = true ∧ cell.cls = c ∧ f.slot < cell.slots.size ∧ k.staticTypes[f.slot]? = some f.type ∧ ¬ A a
theorem vx_L.moved {C n d : String} {A : Nat → Prop} {u U : State} {H : Heap} (hvm : u.vm.Alike U.vm) (h : vx_L C n d A u H) : vx_L C n d A U H := by
  obtain ⟨c, k, i, f, a, cell, h1, h2, h3, h4, h5, h6, h7, h8, h9, h10⟩ := h
  obtain ⟨k', hi', he⟩ := State.fieldFound?_setVm hvm h2
  exact ⟨c, k', i, f, a, cell, by rw [hvm.findClass]; exact h1, hi', h3, by rw [he]; exact h4, h5, h6, h7, h8, by rw [he]; exact h9, h10⟩
theorem vx_L.kept {C n d : String} {A : Nat → Prop} {U : State} {H H1 : Heap} (h : vx_L C n d A U H) (hq : ∀ a : Nat, a < H.size → ¬ A a → H1[a]? = H[a]?) : vx_L C n d A U H1 := by
  obtain ⟨c, k, i, f, a, cell, h1, h2, h3, h4, h5, h6, h7, h8, h9, h10⟩ := h
  exact ⟨c, k, i, f, a, cell, h1, h2, h3, h4, by rw [hq a (Array.getElem?_eq_some_iff.mp h5).1 h10]; exact h5, h6, h7, h8, h9, h10⟩
theorem vx_L.narrow {C n d : String} {A B : Nat → Prop} {U : State} {H : Heap} (h : vx_L C n d A U H) (hAB : ∀ q, B q → A q) : vx_L C n d B U H := by
  obtain ⟨c, k, i, f, a, cell, h1, h2, h3, h4, h5, h6, h7, h8, h9, h10⟩ := h
  exact ⟨c, k, i, f, a, cell, h1, h2, h3, h4, h5, h6, h7, h8, h9, fun z => h10 (hAB _ z)⟩
theorem vx_L.word {C n d : String} {A : Nat → Prop} {s : State} {args : Array Value} (h : vx_L C n d A s s.heap) : (Cond.laysStatic C n d).before args s = true := by
  obtain ⟨c, k, i, f, a, cell, h1, h2, h3, h4, h5, h6, h7, h8, h9, -⟩ := h
  show (Cond.laysStatic C n d).holds args s none s [] = true
  exact Cond.laysStatic_of h1 h2 h3 h4 h5 h6 h7 h8 h9
/-- .. and what it holds: null or some reference -/
def vx_Zq (C n d : String) (A : Nat → Prop) (U : State) (H : Heap) : Prop := va_Zq C n d A U H ∧ vx_L C n d A U H
theorem vx_Zq.moved {C n d : String} {A : Nat → Prop} {u U : State} {H : Heap} (hvm : u.vm.Alike U.vm) (h : vx_Zq C n d A u H) : vx_Zq C n d A U H := ⟨va_Zq.moved hvm h.1, vx_L.moved hvm h.2⟩
theorem vx_Zq.kept {C n d : String} {A : Nat → Prop} {U : State} {H H1 : Heap} (h : vx_Zq C n d A U H) (hq : ∀ a : Nat, a < H.size → ¬ A a → H1[a]? = H[a]?) : vx_Zq C n d A U H1 := ⟨va_Zq.kept h.1 hq, vx_L.kept h.2 hq⟩
theorem vx_Zq.narrow {C n d : String} {A B : Nat → Prop} {U : State} {H : Heap} (h : vx_Zq C n d A U H) (hAB : ∀ q, B q → A q) : vx_Zq C n d B U H := ⟨va_Zq.narrow h.1 hAB, vx_L.narrow h.2 hAB⟩
theorem vx_Zqof {args : Array Value} {s : State} {C n d : String} {A : Nat → Prop} (hl : (Cond.laysStatic C n d).before args s = true) (hini : (Cond.initialized C).before args s = true) (h : (Cond.isRef (.static C n d)).before args s = true) (hA : ∀ a : Nat, a < s.heap.size → ¬ A a) : vx_Zq C n d A s s.heap := by
  refine ⟨va_Zqof hl hini h hA, ?_⟩
  obtain ⟨c, k, i, f, a, cell, h1, h2, h3, h4, h5, h6, h7, h8, h9⟩ := Cond.laysStatic_spec hl
  exact ⟨c, k, i, f, a, cell, h1, h2, h3, h4, h5, h6, h7, h8, h9, hA a (Array.getElem?_eq_some_iff.mp h5).1⟩
theorem vx_isRef {C n d : String} {v : Value} {A : Nat → Prop} {s : State} {args : Array Value} (h : va_Z C n d v A s s.heap) (hv : v.isRef = true) : (Cond.isRef (.static C n d)).before args s = true := by
  obtain ⟨cf, kf, fi, f, a, cell, h1, h2, h3, h4, h5, h6, h7, -⟩ := h
  have he : (Term.static C n d).eval args s none [] s = some v := by
    simp [Term.eval, State.fieldNamed?, h1, h2, h4, h5, h6, h7]
  simp only [Cond.before, Cond.holds, Cond.value, he]
  cases v <;> simp_all [Value.isRef]
theorem vx_isRefq {C n d : String} {A : Nat → Prop} {s : State} {args : Array Value} (h : va_Zq C n d A s s.heap) : (Cond.isRef (.static C n d)).before args s = true := by
  rcases h with h | ⟨t, h⟩
  · exact vx_isRef h rfl
  · exact vx_isRef h rfl
/-- the same frame, seen from here: as if the method were called anew in this heap -/
theorem vx_rebase {T : State} (X : Stand p l e R s m args below meth c T locs cells slots) {R' : Room} (hf : R'.frames ≤ R.frames) (hl : R'.locals ≤ R.locals) (hc : cells + R'.cells ≤ R.cells) (hs : slots + R'.slots ≤ R.slots) :
    Stand p l e R' ((T.setVm s.vm).setFrames (.invoking m args :: below)) m args below meth c T [] 0 0 := by
  have htop : (T.setVm s.vm).topJava?.isSome := X.here.top
  have hF : ((T.setVm s.vm).setFrames (.invoking m args :: below)).frames = .invoking m args :: below := State.frames_setFrames _ (State.cur_lt_of_top htop)
  obtain ⟨g₀, hg0⟩ := Option.isSome_iff_exists.mp htop
  obtain ⟨r, hr⟩ := State.topJava?_eq_some.mp hg0
  have hl9 : e.platform.stackLimits (T.setVm s.vm).me = e.platform.stackLimits s.me := X.limits
  have hb9 : (T.setVm s.vm).me.stackBytes = s.me.stackBytes := X.bytes
  refine ⟨X.admits, X.cas, X.clock, hF, ?_, X.hears, X.method, X.code, X.here, X.tail, X.warmed, ?_, ?_, ?_⟩
  · have h := X.room
    have hU : ((T.setVm s.vm).setFrames (.invoking m args :: below)).localsInUse = s.localsInUse := by
      rw [State.localsInUse_invoking hF (meth := meth) (c := c) X.method X.code, State.localsInUse_invoking X.frames X.method X.code]
    simp only [State.hasRoom, Bool.and_eq_true, decide_eq_true_eq] at h ⊢
    obtain ⟨⟨⟨⟨h1, h2, h3, h4, h5, h6⟩, h7⟩, h8⟩, h9⟩ := h
    rw [X.frames, List.length_cons] at h2 h3
    have q1 := X.heapSize
    have q2 := X.used
    simp only [hF, hU, List.length_cons, State.stackLimits_setFrames, State.stackBytes_setFrames, hl9, hb9]
    refine ⟨⟨⟨⟨by omega, by omega, by omega, by omega, by omega, h6⟩, ?_⟩, ?_⟩, X.book⟩
    · show T.heap.size + R'.cells ≤ e.platform.maxCells
      omega
    · show T.slotsUsed + R'.slots ≤ e.platform.maxSlots
      omega
  · rw [State.stackLimits_setFrames]; rfl
  · rw [State.stackBytes_setFrames]; rfl
  · refine ⟨?_, Nat.le_refl _, Nat.le_refl _, ?_, ?_, fun a c9 h9 => ⟨c9, h9, rfl, rfl, fun _ _ => rfl⟩⟩
    · obtain ⟨t, ht, -⟩ := State.frames_cons hr
      show T.setVm s.vm = { ((T.setVm s.vm).setFrames (.invoking m args :: below)).setFrames (T.setVm s.vm).frames with heap := T.heap, slotsUsed := T.slotsUsed }
      rw [State.setFrames_setFrames, State.setFrames_self ht]
      rfl
    · show T.slotsUsed = T.slotsUsed + ((T.heap.toList.drop T.heap.size).map (·.slots.size)).sum
      rw [List.drop_eq_nil_of_le (Nat.le_of_eq Array.length_toList)]
      rfl
    · show ((T.heap.toList.drop T.heap.size).map (·.slots.size)).sum ≤ 0
      rw [List.drop_eq_nil_of_le (Nat.le_of_eq Array.length_toList)]
      exact Nat.le_refl _
/-- 'throw new E()': new; dup; invokespecial; athrow -/
theorem vx_throw0 {cc : ByteArray} {pc : Nat} (hexec : p.tables.exec = Jvm.exec) (hb : c.code = cc) (hl : l.stackTraces = false) {own cls : String} {names : List String} {ik ic mc ms : Nat} {A : Nat → Prop}
    (hown : s.vm.findClass own = some m.cls) (hcls : Bundle.fit cls = true) (hnames : ∀ n ∈ names, Bundle.fit n = true)
    (hk : (Cond.classLink own ik cls).before args s = true) (hini : (Cond.initialized cls).before args s = true) (hat : ∀ w ∈ vx_at0 own ic cls names, w.before args s = true)
    (hgood : ∀ w ∈ Cond.classLink own ik cls :: Cond.initialized cls :: vx_at0 own ic cls names, vx_ot w = true)
    (hU : vx_Zq Bundle.tN "UNASSIGNED_STACK" Bundle.steD A s s.heap) (hN : vx_Zq Bundle.tN "SUPPRESSED_SENTINEL" Bundle.listD A s s.heap) (hS : va_S A s.heap H locs) (hsize : ls.size = c.maxLocals)
    (d0 : decode cc pc = .ok (.new ik, 3)) (d3 : decode cc (pc + 3) = .ok (.dup, 1)) (d4 : decode cc (pc + 4) = .ok (.invokespecial ic, 3)) (d7 : decode cc (pc + 7) = .ok (.athrow, 1))
    (hout : ∀ x ∈ c.exceptionTable.toList, covers x (pc + 7) = false)
    (hRframes : names.length + 3 < R.frames) (hRlocals : (rest.map fun v => v.category).sum + (13 * (names.length + 1) + 42) ≤ R.locals) (hRcells : cells + 1 ≤ R.cells) (hRslots : slots + 6 ≤ R.slots) (hlocks : meth.locks = false)
    (hx : ∀ t : State, s.vm.Alike t.vm → H.size ≤ t.heap.size → (∀ q : Nat, q < H.size → t.heap[q]? = H[q]?) → XC cls s t)
    (hf : ∀ z ∈ locs, free z.base) (hc : cells + 1 ≤ mc) (hs : slots + 6 ≤ ms) :
    W p l e R s m args below meth c H locs cells slots (vx_MQ below Qc XC args s mc ms free) (F0 m pc ls rest) := by
  intro T hT X
  have htr : e.platform.stackTraces = false := (show e.platform.stackTraces = l.stackTraces by rw [X.admits.platform]).trans hl
  have Y := vx_rebase X (R' := { frames := R.frames, locals := R.locals, cells := 1, slots := 6 }) (Nat.le_refl _) (Nat.le_refl _) hRcells hRslots
  obtain ⟨s', hA⟩ : ∃ z, z = (T.setVm s.vm).setFrames (.invoking m args :: below) := ⟨_, rfl⟩
  rw [← hA] at Y
  have hvm : s'.vm = s.vm := by rw [hA]; rfl
  have hhp : s'.heap = H := by rw [hA]; exact hT
  have hW0 : s.WarmedH s'.vm := by rw [hvm]; exact State.WarmedH.refl s
  have hat' : ∀ w ∈ vx_at0 own ic cls names, w.before args s' = true := fun w hw => vx_ot_at hW0 hvm.symm (hgood w (List.mem_cons_of_mem _ (List.mem_cons_of_mem _ hw))) (hat w hw)
  have hk' : (Cond.classLink own ik cls).before args s' = true := vx_ot_at hW0 hvm.symm (hgood _ List.mem_cons_self) hk
  have hini' : (Cond.initialized cls).before args s' = true := vx_ot_at hW0 hvm.symm (hgood _ (List.mem_cons_of_mem _ List.mem_cons_self)) hini
  have hU' : vx_Zq Bundle.tN "UNASSIGNED_STACK" Bundle.steD A s' s'.heap := by rw [hhp]; exact vx_Zq.moved hW0.alike (hU.kept hS.2.1)
  have hN' : vx_Zq Bundle.tN "SUPPRESSED_SENTINEL" Bundle.listD A s' s'.heap := by rw [hhp]; exact vx_Zq.moved hW0.alike (hN.kept hS.2.1)
  have h : ∀ w ∈ Bundle.ownAtoms0 own ic cls names, w.before args s' = true := vx_own hat' (vx_isRefq hU'.1) (vx_isRefq hN'.1) hU'.2.word hN'.2.word
  have hown' : s'.vm.findClass own = some m.cls := by rw [hvm]; exact hown
  have hins : (Cond.instantiable cls 6).before args s' = true := h _ (by simp [Bundle.ownAtoms0])
  obtain ⟨vm₁, cX, kX, hfX, hkX, -, -, X₁, st1⟩ := Y.newCold hexec (own := own) (C := cls) (index := ik) (n := 6) hown' hk' hins hini'
    (g := F0 m pc ls rest) rfl (by rw [hb]; exact d0) (Nat.le_refl _) (Nat.le_refl _)
  generalize hT1 : (T.setVm vm₁).pushCell { cls := cX, slots := kX.instanceTypes.map defaultValue, vm := .none } = T1 at X₁ st1
  have hcat : (Value.ref T.heap.size).category = 1 := rfl
  have hcellA : T1.heap[T.heap.size]? = some (freshCell cX kX) := by rw [← hT1]; exact State.heap_pushCell_size _ _
  have d3' : decode c.code (pc + 3) = .ok (.dup, 1) := by rw [hb]; exact d3
  obtain ⟨U, hsteps, hrun, hend, hW, hsame, ce, hce, hO⟩ := X₁.ctorThrow0 hexec htr (own := own) (cls := cls) (names := names) (ic := ic) hown' hcls hnames h (fun x hx => nomatch hx) hfX hkX hcellA (by rw [hhp, hT]; exact Nat.le_refl _)
    (g := { method := m, pc := pc + 4, locals := ls, stack := .ref T.heap.size :: .ref T.heap.size :: rest, locked := none }) rfl hsize rfl rfl (rest := rest) rfl
    (by rw [hb]; exact d4) (by rw [hb]; exact d7) hout hRframes (by simp only [List.map_cons, List.sum_cons, hcat]; omega) hlocks
  obtain ⟨f1, f2⟩ := vx_frame hsame
  rw [hhp] at f1 f2
  have hWs : s.WarmedH U.vm := State.WarmedH.trans hW0 hW
  have hcl : s.vm.findClass cls = some ce.cls := by
    have h9 := hO.cls
    rw [hvm] at h9
    exact h9
  have hall : s.sameButNew ({ U with vm := s.vm } : State) locs mc ms := by
    subst hA
    obtain ⟨e1, e2⟩ := hsame
    rw [State.setFrames_setFrames] at e1
    have h2 : (T.setVm s.vm).sameButNew ({ U with vm := s.vm } : State) [] (0 + 1) (0 + 6) := ⟨e1, e2⟩
    have h3 := X.same.trans h2
    rw [List.append_nil] at h3
    exact h3.mono hc hs
  refine ⟨U, ?_, .threw T.heap.size, hrun, hend, Or.inr ⟨T.heap.size, rfl, cls, ce, locs, hx U hWs.alike f1 (fun q hq => f2 q hq (fun z hz => nomatch hz)), hce, hO.vm, hcl, hWs, hall, hf⟩⟩
  refine st1 _ ?_
  show Steps p.tables e below (T1.setTop { method := m, pc := pc + 3, locals := ls, stack := .ref T.heap.size :: rest, locked := none }) _
  jvm_step X₁.here [X₁.here.top, hexec, d3', Value.category]
  exact hsteps
/-- 'throw new E("text")': new; dup; ldc; invokespecial; athrow -/
theorem vx_throwS {cc : ByteArray} {pc : Nat} (hexec : p.tables.exec = Jvm.exec) (hb : c.code = cc) (hl : l.stackTraces = false) {own cls text : String} {names : List String} {ik is ic mc ms sa : Nat} {A : Nat → Prop}
    (hown : s.vm.findClass own = some m.cls) (hcls : Bundle.fit cls = true) (hnames : ∀ n ∈ names, Bundle.fit n = true)
    (hk : (Cond.classLink own ik cls).before args s = true) (hini : (Cond.initialized cls).before args s = true) (hstr : vk_R own is text sa s) (hat : ∀ w ∈ vx_atS own ic cls names, w.before args s = true)
    (hgood : ∀ w ∈ Cond.classLink own ik cls :: Cond.initialized cls :: vx_atS own ic cls names, vx_ot w = true)
    (hU : vx_Zq Bundle.tN "UNASSIGNED_STACK" Bundle.steD A s s.heap) (hN : vx_Zq Bundle.tN "SUPPRESSED_SENTINEL" Bundle.listD A s s.heap) (hS : va_S A s.heap H locs) (hsize : ls.size = c.maxLocals)
    (d0 : decode cc pc = .ok (.new ik, 3)) (d3 : decode cc (pc + 3) = .ok (.dup, 1)) (d4 : decode cc (pc + 4) = .ok (.ldc is, 2)) (d6 : decode cc (pc + 6) = .ok (.invokespecial ic, 3)) (d9 : decode cc (pc + 9) = .ok (.athrow, 1))
    (hout : ∀ x ∈ c.exceptionTable.toList, covers x (pc + 9) = false)
    (hRframes : names.length + 3 < R.frames) (hRlocals : (rest.map fun v => v.category).sum + (13 * (names.length + 1) + 43) ≤ R.locals) (hRcells : cells + 1 ≤ R.cells) (hRslots : slots + 6 ≤ R.slots) (hlocks : meth.locks = false)
    (hx : ∀ t : State, s.vm.Alike t.vm → H.size ≤ t.heap.size → (∀ q : Nat, q < H.size → t.heap[q]? = H[q]?) → XC cls s t)
    (hf : ∀ z ∈ locs, free z.base) (hc : cells + 1 ≤ mc) (hs : slots + 6 ≤ ms) :
    W p l e R s m args below meth c H locs cells slots (vx_MQ below Qc XC args s mc ms free) (F0 m pc ls rest) := by
  intro T hT X
  have htr : e.platform.stackTraces = false := (show e.platform.stackTraces = l.stackTraces by rw [X.admits.platform]).trans hl
  have Y := vx_rebase X (R' := { frames := R.frames, locals := R.locals, cells := 1, slots := 6 }) (Nat.le_refl _) (Nat.le_refl _) hRcells hRslots
  obtain ⟨s', hA⟩ : ∃ z, z = (T.setVm s.vm).setFrames (.invoking m args :: below) := ⟨_, rfl⟩
  rw [← hA] at Y
  have hvm : s'.vm = s.vm := by rw [hA]; rfl
  have hhp : s'.heap = H := by rw [hA]; exact hT
  have hW0 : s.WarmedH s'.vm := by rw [hvm]; exact State.WarmedH.refl s
  have hat' : ∀ w ∈ vx_atS own ic cls names, w.before args s' = true := fun w hw => vx_ot_at hW0 hvm.symm (hgood w (List.mem_cons_of_mem _ (List.mem_cons_of_mem _ hw))) (hat w hw)
  have hk' : (Cond.classLink own ik cls).before args s' = true := vx_ot_at hW0 hvm.symm (hgood _ List.mem_cons_self) hk
  have hini' : (Cond.initialized cls).before args s' = true := vx_ot_at hW0 hvm.symm (hgood _ (List.mem_cons_of_mem _ List.mem_cons_self)) hini
  have hU' : vx_Zq Bundle.tN "UNASSIGNED_STACK" Bundle.steD A s' s'.heap := by rw [hhp]; exact vx_Zq.moved hW0.alike (hU.kept hS.2.1)
  have hN' : vx_Zq Bundle.tN "SUPPRESSED_SENTINEL" Bundle.listD A s' s'.heap := by rw [hhp]; exact vx_Zq.moved hW0.alike (hN.kept hS.2.1)
  have h : ∀ w ∈ Bundle.ownAtoms own ic cls names, w.before args s' = true := vx_own hat' (vx_isRefq hU'.1) (vx_isRefq hN'.1) hU'.2.word hN'.2.word
  have hown' : s'.vm.findClass own = some m.cls := by rw [hvm]; exact hown
  have hins : (Cond.instantiable cls 6).before args s' = true := h _ (by simp [Bundle.ownAtoms])
  obtain ⟨vm₁, cX, kX, hfX, hkX, -, -, X₁, st1⟩ := Y.newCold hexec (own := own) (C := cls) (index := ik) (n := 6) hown' hk' hins hini'
    (g := F0 m pc ls rest) rfl (by rw [hb]; exact d0) (Nat.le_refl _) (Nat.le_refl _)
  generalize hT1 : (T.setVm vm₁).pushCell { cls := cX, slots := kX.instanceTypes.map defaultValue, vm := .none } = T1 at X₁ st1
  have hcat : (Value.ref T.heap.size).category = 1 := rfl
  have hcellA : T1.heap[T.heap.size]? = some (freshCell cX kX) := by rw [← hT1]; exact State.heap_pushCell_size _ _
  have d3' : decode c.code (pc + 3) = .ok (.dup, 1) := by rw [hb]; exact d3
  have d4' : decode c.code (pc + 4) = .ok (.ldc is, 2) := by rw [hb]; exact d4
  have hstr' : vk_R own is text sa s' := vk_R.warm hW0 hstr
  obtain ⟨U, hsteps, hrun, hend, hW, hsame, ce, hce, hO⟩ := X₁.ctorThrowS hexec htr (own := own) (cls := cls) (names := names) (ic := ic) hown' hcls hnames h (fun x hx => nomatch hx) hfX hkX hcellA (by rw [hhp, hT]; exact Nat.le_refl _) (msg := .ref sa) rfl
    (g := { method := m, pc := pc + 6, locals := ls, stack := .ref sa :: .ref T.heap.size :: .ref T.heap.size :: rest, locked := none }) rfl hsize rfl rfl (rest := rest) rfl
    (by rw [hb]; exact d6) (by rw [hb]; exact d9) hout hRframes (by simp only [List.map_cons, List.sum_cons, hcat]; omega) hlocks
  obtain ⟨f1, f2⟩ := vx_frame hsame
  rw [hhp] at f1 f2
  have hWs : s.WarmedH U.vm := State.WarmedH.trans hW0 hW
  have hcl : s.vm.findClass cls = some ce.cls := by
    have h9 := hO.cls
    rw [hvm] at h9
    exact h9
  have hall : s.sameButNew ({ U with vm := s.vm } : State) locs mc ms := by
    subst hA
    obtain ⟨e1, e2⟩ := hsame
    rw [State.setFrames_setFrames] at e1
    have h2 : (T.setVm s.vm).sameButNew ({ U with vm := s.vm } : State) [] (0 + 1) (0 + 6) := ⟨e1, e2⟩
    have h3 := X.same.trans h2
    rw [List.append_nil] at h3
    exact h3.mono hc hs
  refine ⟨U, ?_, .threw T.heap.size, hrun, hend, Or.inr ⟨T.heap.size, rfl, cls, ce, locs, hx U hWs.alike f1 (fun q hq => f2 q hq (fun z hz => nomatch hz)), hce, hO.vm, hcl, hWs, hall, hf⟩⟩
  refine st1 _ ?_
  show Steps p.tables e below (T1.setTop { method := m, pc := pc + 3, locals := ls, stack := .ref T.heap.size :: rest, locked := none }) _
  jvm_step X₁.here [X₁.here.top, hexec, d3', Value.category]
  exact X₁.ldcString hexec (own := own) (text := text) (index := is) (a := sa) hown' hstr'.1 hstr'.2
    (g := { method := m, pc := pc + 4, locals := ls, stack := .ref T.heap.size :: .ref T.heap.size :: rest, locked := none }) rfl d4' _ hsteps
/-- 'throw new E("text")', the text by a wide index -/
theorem vx_throwSW {cc : ByteArray} {pc : Nat} (hexec : p.tables.exec = Jvm.exec) (hb : c.code = cc) (hl : l.stackTraces = false) {own cls text : String} {names : List String} {ik is ic mc ms sa : Nat} {A : Nat → Prop}
    (hown : s.vm.findClass own = some m.cls) (hcls : Bundle.fit cls = true) (hnames : ∀ n ∈ names, Bundle.fit n = true)
    (hk : (Cond.classLink own ik cls).before args s = true) (hini : (Cond.initialized cls).before args s = true) (hstr : vk_R own is text sa s) (hat : ∀ w ∈ vx_atS own ic cls names, w.before args s = true)
    (hgood : ∀ w ∈ Cond.classLink own ik cls :: Cond.initialized cls :: vx_atS own ic cls names, vx_ot w = true)
    (hU : vx_Zq Bundle.tN "UNASSIGNED_STACK" Bundle.steD A s s.heap) (hN : vx_Zq Bundle.tN "SUPPRESSED_SENTINEL" Bundle.listD A s s.heap) (hS : va_S A s.heap H locs) (hsize : ls.size = c.maxLocals)
    (d0 : decode cc pc = .ok (.new ik, 3)) (d3 : decode cc (pc + 3) = .ok (.dup, 1)) (d4 : decode cc (pc + 4) = .ok (.ldc_w is, 3)) (d7 : decode cc (pc + 7) = .ok (.invokespecial ic, 3)) (d10 : decode cc (pc + 10) = .ok (.athrow, 1))
    (hout : ∀ x ∈ c.exceptionTable.toList, covers x (pc + 10) = false)
    (hRframes : names.length + 3 < R.frames) (hRlocals : (rest.map fun v => v.category).sum + (13 * (names.length + 1) + 43) ≤ R.locals) (hRcells : cells + 1 ≤ R.cells) (hRslots : slots + 6 ≤ R.slots) (hlocks : meth.locks = false)
    (hx : ∀ t : State, s.vm.Alike t.vm → H.size ≤ t.heap.size → (∀ q : Nat, q < H.size → t.heap[q]? = H[q]?) → XC cls s t)
    (hf : ∀ z ∈ locs, free z.base) (hc : cells + 1 ≤ mc) (hs : slots + 6 ≤ ms) :
    W p l e R s m args below meth c H locs cells slots (vx_MQ below Qc XC args s mc ms free) (F0 m pc ls rest) := by
  intro T hT X
  have htr : e.platform.stackTraces = false := (show e.platform.stackTraces = l.stackTraces by rw [X.admits.platform]).trans hl
  have Y := vx_rebase X (R' := { frames := R.frames, locals := R.locals, cells := 1, slots := 6 }) (Nat.le_refl _) (Nat.le_refl _) hRcells hRslots
  obtain ⟨s', hA⟩ : ∃ z, z = (T.setVm s.vm).setFrames (.invoking m args :: below) := ⟨_, rfl⟩
  rw [← hA] at Y
  have hvm : s'.vm = s.vm := by rw [hA]; rfl
  have hhp : s'.heap = H := by rw [hA]; exact hT
  have hW0 : s.WarmedH s'.vm := by rw [hvm]; exact State.WarmedH.refl s
  have hat' : ∀ w ∈ vx_atS own ic cls names, w.before args s' = true := fun w hw => vx_ot_at hW0 hvm.symm (hgood w (List.mem_cons_of_mem _ (List.mem_cons_of_mem _ hw))) (hat w hw)
  have hk' : (Cond.classLink own ik cls).before args s' = true := vx_ot_at hW0 hvm.symm (hgood _ List.mem_cons_self) hk
  have hini' : (Cond.initialized cls).before args s' = true := vx_ot_at hW0 hvm.symm (hgood _ (List.mem_cons_of_mem _ List.mem_cons_self)) hini
  have hU' : vx_Zq Bundle.tN "UNASSIGNED_STACK" Bundle.steD A s' s'.heap := by rw [hhp]; exact vx_Zq.moved hW0.alike (hU.kept hS.2.1)
  have hN' : vx_Zq Bundle.tN "SUPPRESSED_SENTINEL" Bundle.listD A s' s'.heap := by rw [hhp]; exact vx_Zq.moved hW0.alike (hN.kept hS.2.1)
  have h : ∀ w ∈ Bundle.ownAtoms own ic cls names, w.before args s' = true := vx_own hat' (vx_isRefq hU'.1) (vx_isRefq hN'.1) hU'.2.word hN'.2.word
  have hown' : s'.vm.findClass own = some m.cls := by rw [hvm]; exact hown
  have hins : (Cond.instantiable cls 6).before args s' = true := h _ (by simp [Bundle.ownAtoms])
  obtain ⟨vm₁, cX, kX, hfX, hkX, -, -, X₁, st1⟩ := Y.newCold hexec (own := own) (C := cls) (index := ik) (n := 6) hown' hk' hins hini'
    (g := F0 m pc ls rest) rfl (by rw [hb]; exact d0) (Nat.le_refl _) (Nat.le_refl _)
  generalize hT1 : (T.setVm vm₁).pushCell { cls := cX, slots := kX.instanceTypes.map defaultValue, vm := .none } = T1 at X₁ st1
  have hcat : (Value.ref T.heap.size).category = 1 := rfl
  have hcellA : T1.heap[T.heap.size]? = some (freshCell cX kX) := by rw [← hT1]; exact State.heap_pushCell_size _ _
  have d3' : decode c.code (pc + 3) = .ok (.dup, 1) := by rw [hb]; exact d3
  have d4' : decode c.code (pc + 4) = .ok (.ldc_w is, 3) := by rw [hb]; exact d4
  have hstr' : vk_R own is text sa s' := vk_R.warm hW0 hstr
  obtain ⟨U, hsteps, hrun, hend, hW, hsame, ce, hce, hO⟩ := X₁.ctorThrowS hexec htr (own := own) (cls := cls) (names := names) (ic := ic) hown' hcls hnames h (fun x hx => nomatch hx) hfX hkX hcellA (by rw [hhp, hT]; exact Nat.le_refl _) (msg := .ref sa) rfl
    (g := { method := m, pc := pc + 7, locals := ls, stack := .ref sa :: .ref T.heap.size :: .ref T.heap.size :: rest, locked := none }) rfl hsize rfl rfl (rest := rest) rfl
    (by rw [hb]; exact d7) (by rw [hb]; exact d10) hout hRframes (by simp only [List.map_cons, List.sum_cons, hcat]; omega) hlocks
  obtain ⟨f1, f2⟩ := vx_frame hsame
  rw [hhp] at f1 f2
  have hWs : s.WarmedH U.vm := State.WarmedH.trans hW0 hW
  have hcl : s.vm.findClass cls = some ce.cls := by
    have h9 := hO.cls
    rw [hvm] at h9
    exact h9
  have hall : s.sameButNew ({ U with vm := s.vm } : State) locs mc ms := by
    subst hA
    obtain ⟨e1, e2⟩ := hsame
    rw [State.setFrames_setFrames] at e1
    have h2 : (T.setVm s.vm).sameButNew ({ U with vm := s.vm } : State) [] (0 + 1) (0 + 6) := ⟨e1, e2⟩
    have h3 := X.same.trans h2
    rw [List.append_nil] at h3
    exact h3.mono hc hs
  refine ⟨U, ?_, .threw T.heap.size, hrun, hend, Or.inr ⟨T.heap.size, rfl, cls, ce, locs, hx U hWs.alike f1 (fun q hq => f2 q hq (fun z hz => nomatch hz)), hce, hO.vm, hcl, hWs, hall, hf⟩⟩
  refine st1 _ ?_
  show Steps p.tables e below (T1.setTop { method := m, pc := pc + 3, locals := ls, stack := .ref T.heap.size :: rest, locked := none }) _
  jvm_step X₁.here [X₁.here.top, hexec, d3', Value.category]
  exact X₁.ldcStringW hexec (own := own) (text := text) (index := is) (a := sa) hown' hstr'.1 hstr'.2
    (g := { method := m, pc := pc + 4, locals := ls, stack := .ref T.heap.size :: .ref T.heap.size :: rest, locked := none }) rfl d4' _ hsteps
end Ends
section Bodies
variable {l : Launch}
theorem vx_ofW {y : MethodName} {ws ws' : List Cond} {rm : Room} {Pc : Array Value → State → Prop} {Qc : Array Value → State → Outcome → State → Prop} {XC : String → State → State → Prop} {mc ms : Nat} {free : Addr → Prop} {cc : ByteArray} {maxL : Nat} {ret : Option FieldType}
    (hy : plainName y.cls = true) (hw : ws = Cond.code y cc maxL ret :: ws')
    (body : ∀ p e s m args below meth c s₁, BodyLoose p l y (headSpec ws rm) cc maxL ret e s m args below meth c s₁ → c.maxLocals = maxL → (∀ x ∈ c.exceptionTable.toList, False) → Pc args s →
      W p l e (headSpec ws rm).room s m args below meth c s.heap [] 0 0 (vx_MQ below Qc XC args s mc ms free) (entryFrame m args maxL)) : vx_Met l y ws rm Pc Qc XC mc ms free := by
  refine MetFree.of_bodyS (code := cc) (maxLocals := maxL) (ret := ret) hy ?_ ?_
  · intro args s m h hn
    obtain ⟨meth, c, h1, h2, h3, h4, h5, h6, -, -⟩ := Cond.code_spec hn (atoms_spec (ws := ws) h _ (by rw [hw]; exact List.mem_cons_self))
    exact ⟨meth, c, h1, h2, h3, h4, h5, h6⟩
  · intro p e s m args below meth c s₁ B hml hP _
    have hh0 : s₁.heap = s.heap := by rw [B.state]; rfl
    have ht : ∀ x ∈ c.exceptionTable.toList, False := by
      obtain ⟨meth9, c9, h1, h2, -, -, -, -, h7, -⟩ := Cond.code_spec B.named (atoms_spec (ws := ws) B.pre _ (by rw [hw]; exact List.mem_cons_self))
      cases Option.some.inj (h1.symm.trans B.method)
      cases Option.some.inj (h2.symm.trans (Stand.of_body B).code)
      intro x hx
      rw [Array.isEmpty_iff.mp h7] at hx
      cases hx
    obtain ⟨t, a1, o, b1, b2, b3⟩ := body p e s m args below meth c s₁ B hml ht hP s₁ hh0 (Stand.of_body B)
    exact ⟨t, o, a1, b1, b2, b3⟩
/-- the table of a body with handlers -/
theorem vx_table {p : Program} {x y : MethodName} {S : Spec} {cc bytes : ByteArray} {maxL maxL' : Nat} {ret ret' : Option FieldType} {e : Env} {s s₁ : State} {m : MethodId} {args : Array Value} {below : List Frame} {meth : Method} {c : Code} {hh : List (Nat × Nat × Nat × Nat)}
    (B : BodyLoose p l y S cc maxL ret e s m args below meth c s₁) (h : (Cond.codeWith y bytes maxL' ret' hh).before args s = true) : c.exceptionTable.toList = tableOf hh := by
  obtain ⟨m9, meth9, c9, hn9, h1, h2, -, -, h6, -⟩ := Cond.codeWith_spec h
  cases Option.some.inj (hn9.symm.trans B.named)
  cases Option.some.inj (h1.symm.trans B.method)
  cases Option.some.inj (h2.symm.trans (Stand.of_body B).code)
  rw [← h6, table_eq]
end Bodies
end VXA
/-! ===== END ===== -/
/-! ===== BEGIN a static call of a method with an exception table ===== -/
section VXS
variable {p : Program} {l : Launch} {e : Env} {R : Room} {s : State} {m : MethodId} {args : Array Value} {below : List Frame} {meth : Method} {c : Code} {T : State} {H : Heap} {locs : List Loc} {cells slots : Nat}
abbrev vx_CSW (R : Room) (s : State) (args : Array Value) (own : String) (index : Nat) (y : MethodName) (bytes : ByteArray) (maxL : Nat) (ret : Option FieldType) (hh : List (Nat × Nat × Nat × Nat)) (ws : List Cond) (rm : Room) (mc ms n : Nat) : Prop :=
  (rm.cells = mc ∧ rm.slots = ms ∧ rm.frames + 1 ≤ R.frames ∧ 8 + (maxL + 11) + rm.locals ≤ R.locals ∧ (∀ w ∈ ws, ∀ (a' : Array Value) (U : State), s.WarmedH U.vm → w.before a' U = true) ∧ Cond.codeWith y bytes maxL ret hh ∈ ws) ∧
  (Cond.codeWith y bytes maxL ret hh).before args s = true ∧ (Cond.initialized y.cls).before args s = true ∧ (y.cls ≠ "java/lang/invoke/MethodHandle" ∧ y.cls ≠ "java/lang/invoke/VarHandle") ∧
  (∀ sig, parseMethodDescriptor y.desc = some sig → n = sig.parameters.length) ∧ (Cond.methodLink own index y).before args s = true ∧ (Cond.static y).before args s = true
theorem vx_cwSW {own : String} {index maxL mc ms : Nat} {y : MethodName} {bytes : ByteArray} {ret : Option FieldType} {hh : List (Nat × Nat × Nat × Nat)} {Ts ws ws' : List Cond} {rm : Room} (n : Nat) (ht : ∀ w ∈ Ts, w.before args s = true) (hT : GoodIn Ts (va_wsS own index y ws)) (hw : ws = Cond.codeWith y bytes maxL ret hh :: ws') (hrc : rm.cells = mc) (hrs : rm.slots = ms)
    (hd : y.cls ≠ "java/lang/invoke/MethodHandle" ∧ y.cls ≠ "java/lang/invoke/VarHandle" ∧ (parseMethodDescriptor y.desc).map (fun d => d.parameters.length) = some n) (hR : rm.frames + 1 ≤ R.frames ∧ 8 + (maxL + 11) + rm.locals ≤ R.locals) :
    vx_CSW R s args own index y bytes maxL ret hh ws rm mc ms n := by
  have ok : ∀ w ∈ va_wsS own index y ws, w.before args s = true := fun w h => ht w (hT w h).1
  have hG : GoodIn Ts ws := fun w h => hT w (by unfold va_wsS; exact List.mem_append_right _ h)
  have hc : Cond.codeWith y bytes maxL ret hh ∈ ws := by rw [hw]; exact List.mem_cons_self
  refine ⟨⟨hrc, hrs, hR.1, hR.2, pay_in ht hG, hc⟩, ht _ (hG _ hc).1, ok _ (by simp [va_wsS]), ⟨hd.1, hd.2.1⟩, fun sig h => ?_, ok _ (by simp [va_wsS]), ok _ (by simp [va_wsS])⟩
  have h2 := hd.2.2
  rw [h] at h2
  exact (Option.some.inj h2).symm
theorem vx_callSW (X : Stand p l e R s m args below meth c T locs cells slots) (hexec : p.tables.exec = Jvm.exec) {own : String} {index : Nat} {y : MethodName} {bytes : ByteArray} {maxL : Nat} {ret : Option FieldType} {hh : List (Nat × Nat × Nat × Nat)}
    (hown : s.vm.findClass own = some m.cls) (hlink : (Cond.methodLink own index y).before args s = true) (hstat : (Cond.static y).before args s = true) (hinit : (Cond.initialized y.cls).before args s = true)
    (hcode : (Cond.codeWith y bytes maxL ret hh).before args s = true) (hy : y.cls ≠ "java/lang/invoke/MethodHandle" ∧ y.cls ≠ "java/lang/invoke/VarHandle")
    {W9 : Nat} {Pre : Pt → Array Value → Prop} {Post : Pt → Array Value → Option Value → Pt → Prop} (hK : Back l R p e below s args y 3 W9 Pre Post)
    {g : JFrame} (hg : g.method = m) (hsize : g.locals.size = c.maxLocals) {argsL rest : List Value} (hlen : ∀ sig, parseMethodDescriptor y.desc = some sig → argsL.length = sig.parameters.length)
    (hstack : g.stack = argsL.reverse ++ rest) (hW : 2 * g.monitorRoom + (rest.map fun v => v.category).sum ≤ W9) (hdg : decode c.code g.pc = .ok (.invokestatic index, 3))
    (hpre : ∀ vm₁, s.WarmedH vm₁ → Pre ⟨T.setVm vm₁, locs, cells, slots⟩ argsL.toArray) :
    ∃ (v : Option Value) (vm₁ : Vm) (B : Pt), s.WarmedH vm₁ ∧ Stand p l e R s m args below meth c B.U B.locs B.cells B.slots ∧ Post ⟨T.setVm vm₁, locs, cells, slots⟩ argsL.toArray v B ∧
      ∀ target, Steps p.tables e below (B.U.setTop { g with pc := g.pc + 3, stack := v.toList ++ rest }) target → Steps p.tables e below (T.setTop g) target := by
  obtain ⟨mk, methM, cM, hnamed, hmethM, -, -, -, -, -, -, hsigM⟩ := Cond.codeWith_spec hcode
  have hstatic : methM.isStatic = true := Cond.static_spec hnamed hmethM hstat
  obtain ⟨kP, hkP, -⟩ := className_of_methodNamed hnamed
  have hinitP : kP.init = .initialized := Cond.initialized_spec (findClass_of_methodNamed hnamed) hkP hinit
  obtain ⟨vm₁, X₁, hstep₁⟩ := X.invokestatic hexec hown hlink hnamed hmethM hstatic hkP hinitP hy (g := g) hg (argsL := argsL) (rest := rest) (hlen _ hsigM) hstack hdg
  obtain ⟨v, B, X', hpost, hsteps⟩ := hK m meth c ⟨T.setVm vm₁, locs, cells, slots⟩ { g with stack := rest } (.invokestatic index) mk argsL.toArray X₁ hg hsize hdg hW (X₁.named hnamed) (hpre vm₁ X₁.warmed)
  exact ⟨v, vm₁, B, X₁.warmed, X', hpost, fun target h => hstep₁ _ fun acts => by rw [doInvoke_state]; exact hsteps.trans h⟩
theorem vx_runSW {y : MethodName} {bytes cc : ByteArray} {maxL nL mc ms n index : Nat} {ret : Option FieldType} {hh : List (Nat × Nat × Nat × Nat)} {ws : List Cond} {rm : Room} {Pc : Array Value → State → Prop} {Qc : Array Value → State → Outcome → State → Prop} {free : Addr → Prop} {Ts : List Cond} {own : String} {As rest : List Value} {g : JFrame}
    (S : CallFix p m c cc nL s args Ts own) (hM : Met l y ws rm Pc Qc mc ms free) (cw : vx_CSW R s args own index y bytes maxL ret hh ws rm mc ms n) (hp : PreS s H Pc As)
    (hg : g.method = m) (hn : As.length = n) (hsize : g.locals.size = nL) (hstack : g.stack = As.reverse ++ rest) (hW : 2 * g.monitorRoom + (rest.map fun v => v.category).sum ≤ 8) (hdg : decode cc g.pc = .ok (.invokestatic index, 3)) (hf : cells + mc ≤ R.cells ∧ slots + ms ≤ R.slots) :
    va_Run p l e R s m args below meth c H locs cells slots mc ms g rest (Qc As.toArray) (free) := by
  obtain ⟨⟨hrc, hrs, hfr, hlo, hws, hcw⟩, hcode, hini, hy, hlen, hl, hstt⟩ := cw
  have hK : Back l R p e below s args y 3 8 (PreOf R mc ms Pc) (PostOf Qc mc ms free) := va_backW (hh := hh) (bytes := bytes) (maxL := maxL) (ret := ret) hM hp.1 hrc hrs hfr hlo hws hcw (fun a' U hW => word_at hW (Or.inl (by first | rfl | simp [Cond.onTables, Cond.keeps, Cond.steady])) hini)
  obtain ⟨hx, hb, hml, ho, -⟩ := S
  intro T hT X
  obtain ⟨v, vm₁, ⟨U', l2, c2, s2⟩, hW₁, X', ⟨g', mk, t, L, e1, e2, hq, h1, hL, h2, h3⟩, st⟩ := vx_callSW X hx (hh := hh) (bytes := bytes) (maxL := maxL) (ret := ret) ho hl hstt hini hcode hy hK hg (hsize.trans hml.symm) (argsL := As) (rest := rest) (fun sig h => hn.trans (hlen sig h)) hstack hW (by rw [hb]; exact hdg)
    (fun vm₁ hW₁ => ⟨hf.1, hf.2, hp.2 (T.setVm vm₁) hT hW₁⟩)
  dsimp only [Pt.U, Pt.locs, Pt.cells, Pt.slots] at X' e1 e2 h1 h2 h3 st
  subst h1; subst h2; subst h3
  exact ⟨v, (T.setVm vm₁).calling g' mk As.toArray, t, U', L, hT, X', hL, e1, e2, hq, st⟩
/-- not caught here, past rows that name other classes: it goes on to the caller -/
theorem vx_outP {p : Program} {l : Launch} {e : Env} {R : Room} {s : State} {m : MethodId} {args : Array Value} {below : List Frame} {meth : Method} {c : Code} {H : Heap} {locs : List Loc} {cells slots : Nat} {free : Addr → Prop} {ls : Array Slot} {rest : List Value} {Qc : Array Value → State → Outcome → State → Prop} {XC : String → State → State → Prop}
    {pc : Nat} {own E : String} {ce : Cell} {q : Addr} {mc ms : Nat} (hown : s.vm.findClass own = some m.cls) (hlocks : meth.locks = false)
    (hpass : ∀ z ∈ c.exceptionTable.toList, covers z pc = false ∨ (z.catchType ≠ 0 ∧ ∃ nm : String, (Cond.classLink own z.catchType nm).before args s = true ∧ va_Nc E nm s)) (hcell : H[q]? = some ce) (hv : ce.vm = .none) (hcl : s.vm.findClass E = some ce.cls)
    (hx : ∀ t : State, t.heap = H → s.vm.Alike t.vm → XC E s t) (hf : ∀ z ∈ locs, free z.base) (hc : cells ≤ mc) (hs : slots ≤ ms) :
    vx_W p l e R s m args below meth c H locs cells slots (vx_MQ below Qc XC args s mc ms free) (F0 m pc ls rest) q := by
  intro T hT X
  have hpl : e.platform.magicAccessors = ({} : Platform).magicAccessors := by rw [X.admits.platform]
  obtain ⟨vm', hW', X', st⟩ := X.outThrough hlocks q (g := F0 m pc ls rest) rfl rfl rfl (cell := ce) (by rw [hT]; exact hcell) (by rw [hv]; rfl)
    (by obtain ⟨k9, h9, -⟩ := Vm.findClass_spec hcl; exact ⟨k9, h9⟩) (fun z hz => by
      rcases hpass z hz with h | ⟨hz0, nm, hl1, hn1⟩
      · exact Or.inl h
      · obtain ⟨c6, hc6, hcl6⟩ := Cond.classLink_spec hown hl1 e.platform hpl
        obtain ⟨a8, b8, h1, h2, h3⟩ := hn1
        cases Option.some.inj (h1.symm.trans hcl)
        cases Option.some.inj (h2.symm.trans hc6)
        exact Or.inr ⟨hz0, _, hcl6, h3⟩)
  obtain ⟨g₀, hfr⟩ := X'.frames_eq
  have hcell9 : ((T.setVm vm').setFrames (.throwing q :: below)).heap[q]? = some ce := by
    show T.heap[q]? = some ce
    rw [hT]; exact hcell
  have hend : Ended ((T.setVm vm').setFrames (.throwing q :: below)) below (.threw q) := State.frames_setFrames _ (State.cur_lt_of_frames hfr)
  refine ⟨(T.setVm vm').setFrames (.throwing q :: below), ?_, .threw q, X'.here.running, hend, Or.inr ⟨q, rfl, E, ce, locs, hx _ hT (X'.ends _).1.alike, hcell9, hv, hcl, (X'.ends _).1, (X'.ends _).2.mono hc hs, hf⟩⟩
  rw [X.pushThrowing_eq]
  exact st
/-- a thing of a world lies in the heap -/
theorem vx_lt {D : va_G} {cl : List vw_C} {ws : va_W} {H1 : Heap} (h : va_P D cl ws H1) {k : Nat} {q : Nat × va_E} (hk : ws[k]? = some q) : q.1 < H1.size := (h k q hk).lt
end VXS
/-! ===== END ===== -/
/-! ===== BEGIN methods with a table of their own: called by a name, returning or throwing ===== -/
section VXH
/-! vx_backW, vx_callVX, vx_callSX, vx_callVW, vx_runVW, vx_runVX, vx_runSX, vx_ofWH follow the same proofs as their sisters above (Free/Laws.lean, Shelf42/LK1.lean); vx_outP calls Shelf42/NT130.lean (outThrough). -/
section
variable {l : Launch} {R : Room} {p : Program} {e : Env} {below : List Frame} {s : State} {sargs : Array Value} {y : MethodName} {len W9 : Nat}
theorem vx_backW {ws : List Cond} {rm : Room} {Pc : Array Value → State → Prop} {Qc : Array Value → State → Outcome → State → Prop} {XC : String → State → State → Prop} {mc ms : Nat} {free : Addr → Prop} {bytes : ByteArray} {maxL : Nat} {ret : Option FieldType} {hh : List (Nat × Nat × Nat × Nat)}
    (hM : vx_Met l y ws rm Pc Qc XC mc ms free) (hblind : FrameBlind Pc) (hrc : rm.cells = mc) (hrs : rm.slots = ms)
    (hframes : rm.frames + 1 ≤ R.frames) (hlocals : W9 + (maxL + 11) + rm.locals ≤ R.locals)
    (hws : ∀ w ∈ ws, ∀ a' U, s.WarmedH U.vm → w.before a' U = true) (hcode : Cond.codeWith y bytes maxL ret hh ∈ ws) (hinit : ∀ a' U, s.WarmedH U.vm → (Cond.initialized y.cls).before a' U = true) :
    vx_Back l R p e below s sargs y len W9 (PreOf R mc ms Pc) (PostOf Qc mc ms free) (vx_Post XC mc ms free) := by
  intro m meth c A g ig mk a X hg hsize hdg hW hn hp
  have h1 : (headSpec ws rm).pre.before a A.U = true := atoms_intro fun w hw => hws w hw _ _ X.warmed
  have h2 : (Cond.codeWith y bytes maxL ret hh).before a A.U = true := hws _ hcode _ _ X.warmed
  have h3 : (Cond.initialized y.cls).before a A.U = true := hinit _ _ X.warmed
  have h4 : A.cells + (headSpec ws rm).room.cells ≤ R.cells := by rw [show (headSpec ws rm).room.cells = mc from hrc]; exact hp.1
  have h5 : A.slots + (headSpec ws rm).room.slots ≤ R.slots := by rw [show (headSpec ws rm).room.slots = ms from hrs]; exact hp.2.1
  have hPc : Pc a (A.U.calling g mk a) := hblind _ _ _ _ hp.2.2
  obtain ⟨U, Ls, c0, s0⟩ := A
  dsimp only [Pt.U, Pt.locs, Pt.cells, Pt.slots] at h1 h2 h3 h4 h5 X hn hPc ⊢
  obtain ⟨m9, methY, cY, hn9, hmY, hcY, -, hlY, -⟩ := Cond.codeWith_spec h2
  cases Option.some.inj (hn9.symm.trans hn)
  obtain ⟨kY, hkY, -⟩ := className_of_methodNamed hn
  have hinitY : kY.init = .initialized := Cond.initialized_spec (findClass_of_methodNamed hn) hkY h3
  have h : At U g.method c below := by rw [hg]; exact X.here
  have hlocals9 : W9 + (maxL + 11) + (headSpec ws rm).room.locals ≤ R.locals := hlocals
  have happ : (headSpec ws rm).appliesLoose y e.platform (U.calling g mk a) = true :=
    Spec.appliesLoose_calling (g := g) h hdg hn hkY hinitY
      (X.room_calling (g := g) (R' := (headSpec ws rm).room) hsize hmY hcY hframes (by rw [hlY]; omega) h4 h5) h1
  obtain ⟨mid, hmid⟩ := h.above
  have hfr : (U.setTop g).frames = (.java g :: mid) ++ below := by rw [State.frames_setTop' g h.top, hmid]; rfl
  obtain ⟨o, s₂, hsteps, -, hend, hq⟩ := Steps.callFree hM p X.admits X.cas X.clock (acts := []) hfr happ hPc trivial
  have hq' : vx_Q Qc XC mc ms free a (U.calling g mk a) o s₂ := hq
  rw [State.frames_setTop' g h.top] at hend
  obtain ⟨g₀, hg0⟩ := Option.isSome_iff_exists.mp h.top
  obtain ⟨r, hr⟩ := State.topJava?_eq_some.mp hg0
  have hr' : (({ U with heap := s₂.heap, slotsUsed := s₂.slotsUsed } : State).setVm s₂.vm).frames = .java g₀ :: r := hr
  rcases hq' with ⟨hqc, L, hfe, hL⟩ | ⟨q, rfl, E, ce, L, hx, hce, hcv, hcl, hW₂, hsm, hL⟩
  · obtain ⟨⟨v, rfl⟩, hW₂, e2, q2, q3, q4, q5, q6⟩ := id hfe
    have e3 : s₂ = ({ (U.calling g mk a).setFrames s₂.frames with heap := s₂.heap, slotsUsed := s₂.slotsUsed } : State).setVm s₂.vm := by
      have : s₂ = ({ s₂ with vm := (U.calling g mk a).vm } : State).setVm s₂.vm := rfl
      rw [e2] at this
      exact this
    obtain ⟨c₂, i₂, len₂, hc₂, hd₂, hf₂⟩ := hend
    have hW' : U.WarmedH s₂.vm := hW₂
    have hcc : c₂ = c := by
      have h1 : s₂.code? g.method = U.code? g.method := by
        rw [State.code?_eq, State.code?_eq, hW'.alike.method?]
      exact Option.some.inj (hc₂.symm.trans (h1.trans h.code))
    subst hcc
    have hlen : len₂ = len := by rw [hdg] at hd₂; cases hd₂; rfl
    subst hlen
    have hs₂ : s₂ = (({ U with heap := s₂.heap, slotsUsed := s₂.slotsUsed } : State).setVm s₂.vm).setTop { g with pc := g.pc + len₂, stack := v.toList ++ g.stack } := by
      refine e3.trans ?_
      rw [hf₂, State.calling_eq h.top, State.setFrames_setFrames, State.setTop_of_frames _ hr', hr]
      rfl
    have hsame : U.sameButNew ({ U with heap := s₂.heap, slotsUsed := s₂.slotsUsed } : State) L mc ms := by
      refine ⟨?_, q2, q3, q4, q5, q6⟩
      obtain ⟨t, ht, -⟩ := State.frames_cons hr
      show ({ U with heap := s₂.heap, slotsUsed := s₂.slotsUsed } : State) = { U.setFrames U.frames with heap := s₂.heap, slotsUsed := s₂.slotsUsed }
      rw [State.setFrames_self ht]
    subst hg
    refine Or.inl ⟨v, ⟨(({ U with heap := s₂.heap, slotsUsed := s₂.slotsUsed } : State).setVm s₂.vm), Ls ++ L, c0 + mc, s0 + ms⟩,
      ⟨X.admits, X.cas, X.clock, X.frames, X.room, X.hears, X.method, X.code, (X.here.setHeapUsed s₂.heap s₂.slotsUsed).setVm hW'.alike, X.tail, State.WarmedH.trans X.warmed hW', X.limits, X.bytes, X.same.trans (hsame.setVm s.vm)⟩,
      ⟨g, mk, s₂, L, rfl, rfl, hqc, rfl, hL, rfl, rfl⟩, ?_⟩
    show Steps p.tables e below _ ((({ U with heap := s₂.heap, slotsUsed := s₂.slotsUsed } : State).setVm s₂.vm).setTop { g with pc := g.pc + len₂, stack := v.toList ++ g.stack })
    rw [← hs₂]
    exact hsteps
  · obtain ⟨e2, q2, q3, q4, q5, q6⟩ := id hsm
    have e3 : s₂ = ({ (U.calling g mk a).setFrames s₂.frames with heap := s₂.heap, slotsUsed := s₂.slotsUsed } : State).setVm s₂.vm := by
      have : s₂ = ({ s₂ with vm := (U.calling g mk a).vm } : State).setVm s₂.vm := rfl
      rw [e2] at this
      exact this
    have hf₂ : s₂.frames = .throwing q :: .java g :: U.frames.tail := hend
    have hW' : U.WarmedH s₂.vm := hW₂
    have hs₂ : s₂ = ((({ U with heap := s₂.heap, slotsUsed := s₂.slotsUsed } : State).setVm s₂.vm).setTop g).pushFrame (.throwing q) := by
      refine e3.trans ?_
      rw [hf₂, State.calling_eq h.top, State.setFrames_setFrames, State.pushFrame, State.frames_setTop _ hr', State.setTop_of_frames _ hr', State.setFrames_setFrames, hr]
      rfl
    have hsame : U.sameButNew ({ U with heap := s₂.heap, slotsUsed := s₂.slotsUsed } : State) L mc ms := by
      refine ⟨?_, q2, q3, q4, q5, q6⟩
      obtain ⟨t, ht, -⟩ := State.frames_cons hr
      show ({ U with heap := s₂.heap, slotsUsed := s₂.slotsUsed } : State) = { U.setFrames U.frames with heap := s₂.heap, slotsUsed := s₂.slotsUsed }
      rw [State.setFrames_self ht]
    subst hg
    refine Or.inr ⟨q, ⟨(({ U with heap := s₂.heap, slotsUsed := s₂.slotsUsed } : State).setVm s₂.vm), Ls ++ L, c0 + mc, s0 + ms⟩,
      ⟨X.admits, X.cas, X.clock, X.frames, X.room, X.hears, X.method, X.code, (X.here.setHeapUsed s₂.heap s₂.slotsUsed).setVm hW'.alike, X.tail, State.WarmedH.trans X.warmed hW', X.limits, X.bytes, X.same.trans (hsame.setVm s.vm)⟩,
      ⟨g, mk, s₂, L, E, ce, rfl, rfl, hx, hce, hcv, hcl, rfl, hL, rfl, rfl⟩, ?_⟩
    show Steps p.tables e below _ (((({ U with heap := s₂.heap, slotsUsed := s₂.slotsUsed } : State).setVm s₂.vm).setTop g).pushFrame (.throwing q))
    rw [← hs₂]
    exact hsteps
end
variable {p : Program} {l : Launch} {e : Env} {R : Room} {s : State} {m : MethodId} {args : Array Value} {below : List Frame} {meth : Method} {c : Code} {T : State} {H : Heap} {locs : List Loc} {cells slots : Nat}
theorem vx_callVX (X : Stand p l e R s m args below meth c T locs cells slots) (hexec : p.tables.exec = Jvm.exec) {own C : String} {index : Nat} {y : MethodName} {bytes : ByteArray} {maxL : Nat} {ret : Option FieldType} {hh : List (Nat × Nat × Nat × Nat)}
    (hown : s.vm.findClass own = some m.cls) (hlink : (Cond.methodLink own index y).before args s = true) (hinst : (Cond.instanceMethod y).before args s = true) (hsel : (Cond.selects C y y).before args s = true)
    (hcode : (Cond.codeWith y bytes maxL ret hh).before args s = true) (hy : y.cls ≠ "java/lang/invoke/MethodHandle" ∧ y.cls ≠ "java/lang/invoke/VarHandle")
    {W9 : Nat} {Pre : Pt → Array Value → Prop} {Post : Pt → Array Value → Option Value → Pt → Prop} {PostX : Pt → Array Value → Addr → Pt → Prop} (hK : vx_Back l R p e below s args y 3 W9 Pre Post PostX)
    {b : Addr} {cellB : Cell} (hcell : T.heap[b]? = some cellB) (hobj : cellB.vm.isStatics = false) (hcls : s.vm.findClass C = some cellB.cls)
    {g : JFrame} (hg : g.method = m) (hsize : g.locals.size = c.maxLocals) {argsL rest : List Value} (hlen : ∀ sig, parseMethodDescriptor y.desc = some sig → argsL.length = sig.parameters.length)
    (hstack : g.stack = argsL.reverse ++ .ref b :: rest) (hW : 2 * g.monitorRoom + (rest.map fun v => v.category).sum ≤ W9) (hdg : decode c.code g.pc = .ok (.invokevirtual index, 3))
    (hpre : ∀ vm₁, s.WarmedH vm₁ → Pre ⟨T.setVm vm₁, locs, cells, slots⟩ (Value.ref b :: argsL).toArray) :
    (∃ (v : Option Value) (vm₁ : Vm) (B : Pt), s.WarmedH vm₁ ∧ Stand p l e R s m args below meth c B.U B.locs B.cells B.slots ∧ Post ⟨T.setVm vm₁, locs, cells, slots⟩ (Value.ref b :: argsL).toArray v B ∧
      ∀ target, Steps p.tables e below (B.U.setTop { g with pc := g.pc + 3, stack := v.toList ++ rest }) target → Steps p.tables e below (T.setTop g) target) ∨
    (∃ (q : Addr) (vm₁ : Vm) (B : Pt), s.WarmedH vm₁ ∧ Stand p l e R s m args below meth c B.U B.locs B.cells B.slots ∧ PostX ⟨T.setVm vm₁, locs, cells, slots⟩ (Value.ref b :: argsL).toArray q B ∧
      Steps p.tables e below (T.setTop g) ((B.U.setTop { g with stack := rest }).pushFrame (.throwing q))) := by
  obtain ⟨mk, methM, hnamed, hmethM, hstM, habM⟩ := Cond.instanceMethod_spec hinst
  obtain ⟨m8, methM', cM, hn8, hmethM', -, -, -, -, -, -, hsigM⟩ := Cond.codeWith_spec hcode
  cases Option.some.inj (hn8.symm.trans hnamed)
  cases hmethM.symm.trans hmethM'
  obtain ⟨c2, r2, m2, q1, q2, q3, q4, kP, hkP, hkPi⟩ := Cond.selects_spec hsel
  cases hcls.symm.trans q1
  cases (State.methodFound?_of_named hnamed hy).symm.trans q2
  cases hnamed.symm.trans q3
  have hselP : selectMethod e.platform s.vm cellB.cls mk = .method mk := by rw [Launch.admits_selectMethod X.admits]; exact q4
  obtain ⟨vm₁, X₁, hstep₁⟩ := X.invokevirtual hexec hown hlink hnamed hmethM hstM hkP hkPi hy (a := b) (cell := cellB) hcell
    (fun z h => by rw [h] at hobj; cases hobj) hselP hmethM habM hkP hkPi (g := g) hg (argsL := argsL) (rest := rest) (hlen _ hsigM) hstack hdg
  rcases hK m meth c ⟨T.setVm vm₁, locs, cells, slots⟩ { g with stack := rest } (.invokevirtual index) mk (Value.ref b :: argsL).toArray X₁ hg hsize hdg hW (X₁.named hnamed) (hpre vm₁ X₁.warmed) with ⟨v, B, X', hpost, hsteps⟩ | ⟨q, B, X', hpost, hsteps⟩
  · exact Or.inl ⟨v, vm₁, B, X₁.warmed, X', hpost, fun target h => hstep₁ _ fun acts => by rw [doInvoke_state]; exact hsteps.trans h⟩
  · exact Or.inr ⟨q, vm₁, B, X₁.warmed, X', hpost, hstep₁ _ fun acts => by rw [doInvoke_state]; exact hsteps⟩
theorem vx_callSX (X : Stand p l e R s m args below meth c T locs cells slots) (hexec : p.tables.exec = Jvm.exec) {own : String} {index : Nat} {y : MethodName} {bytes : ByteArray} {maxL : Nat} {ret : Option FieldType} {hh : List (Nat × Nat × Nat × Nat)}
    (hown : s.vm.findClass own = some m.cls) (hlink : (Cond.methodLink own index y).before args s = true) (hstat : (Cond.static y).before args s = true) (hinit : (Cond.initialized y.cls).before args s = true)
    (hcode : (Cond.codeWith y bytes maxL ret hh).before args s = true) (hy : y.cls ≠ "java/lang/invoke/MethodHandle" ∧ y.cls ≠ "java/lang/invoke/VarHandle")
    {W9 : Nat} {Pre : Pt → Array Value → Prop} {Post : Pt → Array Value → Option Value → Pt → Prop} {PostX : Pt → Array Value → Addr → Pt → Prop} (hK : vx_Back l R p e below s args y 3 W9 Pre Post PostX)
    {g : JFrame} (hg : g.method = m) (hsize : g.locals.size = c.maxLocals) {argsL rest : List Value} (hlen : ∀ sig, parseMethodDescriptor y.desc = some sig → argsL.length = sig.parameters.length)
    (hstack : g.stack = argsL.reverse ++ rest) (hW : 2 * g.monitorRoom + (rest.map fun v => v.category).sum ≤ W9) (hdg : decode c.code g.pc = .ok (.invokestatic index, 3))
    (hpre : ∀ vm₁, s.WarmedH vm₁ → Pre ⟨T.setVm vm₁, locs, cells, slots⟩ argsL.toArray) :
    (∃ (v : Option Value) (vm₁ : Vm) (B : Pt), s.WarmedH vm₁ ∧ Stand p l e R s m args below meth c B.U B.locs B.cells B.slots ∧ Post ⟨T.setVm vm₁, locs, cells, slots⟩ argsL.toArray v B ∧
      ∀ target, Steps p.tables e below (B.U.setTop { g with pc := g.pc + 3, stack := v.toList ++ rest }) target → Steps p.tables e below (T.setTop g) target) ∨
    (∃ (q : Addr) (vm₁ : Vm) (B : Pt), s.WarmedH vm₁ ∧ Stand p l e R s m args below meth c B.U B.locs B.cells B.slots ∧ PostX ⟨T.setVm vm₁, locs, cells, slots⟩ argsL.toArray q B ∧
      Steps p.tables e below (T.setTop g) ((B.U.setTop { g with stack := rest }).pushFrame (.throwing q))) := by
  obtain ⟨mk, methM, cM, hnamed, hmethM, -, -, -, -, -, -, hsigM⟩ := Cond.codeWith_spec hcode
  have hstatic : methM.isStatic = true := Cond.static_spec hnamed hmethM hstat
  obtain ⟨kP, hkP, -⟩ := className_of_methodNamed hnamed
  have hinitP : kP.init = .initialized := Cond.initialized_spec (findClass_of_methodNamed hnamed) hkP hinit
  obtain ⟨vm₁, X₁, hstep₁⟩ := X.invokestatic hexec hown hlink hnamed hmethM hstatic hkP hinitP hy (g := g) hg (argsL := argsL) (rest := rest) (hlen _ hsigM) hstack hdg
  rcases hK m meth c ⟨T.setVm vm₁, locs, cells, slots⟩ { g with stack := rest } (.invokestatic index) mk argsL.toArray X₁ hg hsize hdg hW (X₁.named hnamed) (hpre vm₁ X₁.warmed) with ⟨v, B, X', hpost, hsteps⟩ | ⟨q, B, X', hpost, hsteps⟩
  · exact Or.inl ⟨v, vm₁, B, X₁.warmed, X', hpost, fun target h => hstep₁ _ fun acts => by rw [doInvoke_state]; exact hsteps.trans h⟩
  · exact Or.inr ⟨q, vm₁, B, X₁.warmed, X', hpost, hstep₁ _ fun acts => by rw [doInvoke_state]; exact hsteps⟩
theorem vx_callVW (X : Stand p l e R s m args below meth c T locs cells slots) (hexec : p.tables.exec = Jvm.exec) {own C : String} {index : Nat} {y : MethodName} {bytes : ByteArray} {maxL : Nat} {ret : Option FieldType} {hh : List (Nat × Nat × Nat × Nat)}
    (hown : s.vm.findClass own = some m.cls) (hlink : (Cond.methodLink own index y).before args s = true) (hinst : (Cond.instanceMethod y).before args s = true) (hsel : (Cond.selects C y y).before args s = true)
    (hcode : (Cond.codeWith y bytes maxL ret hh).before args s = true) (hy : y.cls ≠ "java/lang/invoke/MethodHandle" ∧ y.cls ≠ "java/lang/invoke/VarHandle")
    {W9 : Nat} {Pre : Pt → Array Value → Prop} {Post : Pt → Array Value → Option Value → Pt → Prop} (hK : Back l R p e below s args y 3 W9 Pre Post)
    {b : Addr} {cellB : Cell} (hcell : T.heap[b]? = some cellB) (hobj : cellB.vm.isStatics = false) (hcls : s.vm.findClass C = some cellB.cls)
    {g : JFrame} (hg : g.method = m) (hsize : g.locals.size = c.maxLocals) {argsL rest : List Value} (hlen : ∀ sig, parseMethodDescriptor y.desc = some sig → argsL.length = sig.parameters.length)
    (hstack : g.stack = argsL.reverse ++ .ref b :: rest) (hW : 2 * g.monitorRoom + (rest.map fun v => v.category).sum ≤ W9) (hdg : decode c.code g.pc = .ok (.invokevirtual index, 3))
    (hpre : ∀ vm₁, s.WarmedH vm₁ → Pre ⟨T.setVm vm₁, locs, cells, slots⟩ (Value.ref b :: argsL).toArray) :
    ∃ (v : Option Value) (vm₁ : Vm) (B : Pt), s.WarmedH vm₁ ∧ Stand p l e R s m args below meth c B.U B.locs B.cells B.slots ∧ Post ⟨T.setVm vm₁, locs, cells, slots⟩ (Value.ref b :: argsL).toArray v B ∧
      ∀ target, Steps p.tables e below (B.U.setTop { g with pc := g.pc + 3, stack := v.toList ++ rest }) target → Steps p.tables e below (T.setTop g) target := by
  obtain ⟨mk, methM, hnamed, hmethM, hstM, habM⟩ := Cond.instanceMethod_spec hinst
  obtain ⟨m8, methM', cM, hn8, hmethM', -, -, -, -, -, -, hsigM⟩ := Cond.codeWith_spec hcode
  cases Option.some.inj (hn8.symm.trans hnamed)
  cases hmethM.symm.trans hmethM'
  obtain ⟨c2, r2, m2, q1, q2, q3, q4, kP, hkP, hkPi⟩ := Cond.selects_spec hsel
  cases hcls.symm.trans q1
  cases (State.methodFound?_of_named hnamed hy).symm.trans q2
  cases hnamed.symm.trans q3
  have hselP : selectMethod e.platform s.vm cellB.cls mk = .method mk := by rw [Launch.admits_selectMethod X.admits]; exact q4
  obtain ⟨vm₁, X₁, hstep₁⟩ := X.invokevirtual hexec hown hlink hnamed hmethM hstM hkP hkPi hy (a := b) (cell := cellB) hcell
    (fun z h => by rw [h] at hobj; cases hobj) hselP hmethM habM hkP hkPi (g := g) hg (argsL := argsL) (rest := rest) (hlen _ hsigM) hstack hdg
  obtain ⟨v, B, X', hpost, hsteps⟩ := hK m meth c ⟨T.setVm vm₁, locs, cells, slots⟩ { g with stack := rest } (.invokevirtual index) mk (Value.ref b :: argsL).toArray X₁ hg hsize hdg hW (X₁.named hnamed) (hpre vm₁ X₁.warmed)
  exact ⟨v, vm₁, B, X₁.warmed, X', hpost, fun target h => hstep₁ _ fun acts => by rw [doInvoke_state]; exact hsteps.trans h⟩
abbrev vx_CVW (R : Room) (s : State) (args : Array Value) (own C : String) (index : Nat) (y : MethodName) (bytes : ByteArray) (maxL : Nat) (ret : Option FieldType) (hh : List (Nat × Nat × Nat × Nat)) (ws : List Cond) (rm : Room) (mc ms n : Nat) : Prop :=
  (rm.cells = mc ∧ rm.slots = ms ∧ rm.frames + 1 ≤ R.frames ∧ 8 + (maxL + 11) + rm.locals ≤ R.locals ∧ (∀ w ∈ ws, ∀ (a' : Array Value) (U : State), s.WarmedH U.vm → w.before a' U = true) ∧ Cond.codeWith y bytes maxL ret hh ∈ ws) ∧
  (Cond.codeWith y bytes maxL ret hh).before args s = true ∧ (Cond.initialized y.cls).before args s = true ∧ (y.cls ≠ "java/lang/invoke/MethodHandle" ∧ y.cls ≠ "java/lang/invoke/VarHandle") ∧
  (∀ sig, parseMethodDescriptor y.desc = some sig → n = sig.parameters.length) ∧ (Cond.methodLink own index y).before args s = true ∧ (Cond.instanceMethod y).before args s = true ∧ (Cond.selects C y y).before args s = true
theorem vx_cwVW {own C : String} {index maxL mc ms : Nat} {y : MethodName} {bytes : ByteArray} {ret : Option FieldType} {hh : List (Nat × Nat × Nat × Nat)} {Ts ws ws' : List Cond} {rm : Room} (n : Nat) (ht : ∀ w ∈ Ts, w.before args s = true) (hT : GoodIn Ts (wsV own index C y ws)) (hw : ws = Cond.codeWith y bytes maxL ret hh :: ws') (hrc : rm.cells = mc) (hrs : rm.slots = ms)
    (hd : y.cls = C ∧ y.cls ≠ "java/lang/invoke/MethodHandle" ∧ y.cls ≠ "java/lang/invoke/VarHandle" ∧ (parseMethodDescriptor y.desc).map (fun d => d.parameters.length) = some n) (hR : rm.frames + 1 ≤ R.frames ∧ 8 + (maxL + 11) + rm.locals ≤ R.locals) :
    vx_CVW R s args own C index y bytes maxL ret hh ws rm mc ms n := by
  obtain ⟨hC, hd⟩ := hd
  subst hC
  have ok : ∀ w ∈ wsV own index y.cls y ws, w.before args s = true := fun w h => ht w (hT w h).1
  have hG : GoodIn Ts ws := fun w h => hT w (by unfold wsV; exact List.mem_append_right _ h)
  have hc : Cond.codeWith y bytes maxL ret hh ∈ ws := by rw [hw]; exact List.mem_cons_self
  refine ⟨⟨hrc, hrs, hR.1, hR.2, pay_in ht hG, hc⟩, ht _ (hG _ hc).1, ok _ (by simp [wsV]), ⟨hd.1, hd.2.1⟩, fun sig h => ?_, ok _ (by simp [wsV]), ok _ (by simp [wsV]), ok _ (by simp [wsV])⟩
  have h2 := hd.2.2
  rw [h] at h2
  exact (Option.some.inj h2).symm
theorem vx_runVW {y : MethodName} {bytes cc : ByteArray} {maxL nL mc ms n index : Nat} {ret : Option FieldType} {hh : List (Nat × Nat × Nat × Nat)} {ws : List Cond} {rm : Room} {Pc : Array Value → State → Prop} {Qc : Array Value → State → Outcome → State → Prop} {free : Addr → Prop} {Ts : List Cond} {own C : String} {b : Addr} {As rest : List Value} {g : JFrame}
    (S : CallFix p m c cc nL s args Ts own) (hM : Met l y ws rm Pc Qc mc ms free) (cw : vx_CVW R s args own C index y bytes maxL ret hh ws rm mc ms n) (hp : PreV s H C b Pc As)
    (hg : g.method = m) (hn : As.length = n) (hsize : g.locals.size = nL) (hstack : g.stack = As.reverse ++ .ref b :: rest) (hW : 2 * g.monitorRoom + (rest.map fun v => v.category).sum ≤ 8) (hdg : decode cc g.pc = .ok (.invokevirtual index, 3)) (hf : cells + mc ≤ R.cells ∧ slots + ms ≤ R.slots) :
    va_Run p l e R s m args below meth c H locs cells slots mc ms g rest (Qc (Value.ref b :: As).toArray) free := by
  obtain ⟨⟨hrc, hrs, hfr, hlo, hws, hcw⟩, hcode, hini, hy, hlen, hl, hin, hse⟩ := cw
  have hK : Back l R p e below s args y 3 8 (PreOf R mc ms Pc) (PostOf Qc mc ms free) := va_backW (hh := hh) (bytes := bytes) (maxL := maxL) (ret := ret) hM hp.1 hrc hrs hfr hlo hws hcw (fun a' U hW => word_at hW (Or.inl (by first | rfl | simp [Cond.onTables, Cond.keeps, Cond.steady])) hini)
  obtain ⟨hx, hb, hml, ho, -⟩ := S
  obtain ⟨-, ⟨cellB, hcB, hoB, hclB⟩, hPc⟩ := hp
  intro T hT X
  obtain ⟨v, vm₁, ⟨U', l2, c2, s2⟩, hW₁, X', ⟨g', mk, t, L, e1, e2, hq, h1, hL, h2, h3⟩, st⟩ := vx_callVW X hx (C := C) (hh := hh) (bytes := bytes) (maxL := maxL) (ret := ret) ho hl hin hse hcode hy hK (by rw [hT]; exact hcB) hoB hclB hg (hsize.trans hml.symm) (argsL := As) (rest := rest) (fun sig h => hn.trans (hlen sig h)) hstack hW (by rw [hb]; exact hdg)
    (fun vm₁ hW₁ => ⟨hf.1, hf.2, hPc (T.setVm vm₁) hT hW₁⟩)
  dsimp only [Pt.U, Pt.locs, Pt.cells, Pt.slots] at X' e1 e2 h1 h2 h3 st
  subst h1; subst h2; subst h3
  exact ⟨v, (T.setVm vm₁).calling g' mk (Value.ref b :: As).toArray, t, U', L, hT, X', hL, e1, e2, hq, st⟩
section
variable {y : MethodName} {bytes cc : ByteArray} {maxL nL mc ms n index : Nat} {ret : Option FieldType} {ws : List Cond} {rm : Room} {Pc : Array Value → State → Prop} {Qc : Array Value → State → Outcome → State → Prop} {XC : String → State → State → Prop} {free : Addr → Prop} {Ts : List Cond} {own C : String} {b : Addr} {As rest : List Value} {g : JFrame}
theorem vx_runVX {hh : List (Nat × Nat × Nat × Nat)} (S : CallFix p m c cc nL s args Ts own) (hM : vx_Met l y ws rm Pc Qc XC mc ms free) (cw : vx_CVW R s args own C index y bytes maxL ret hh ws rm mc ms n) (hp : PreV s H C b Pc As)
    (hg : g.method = m) (hn : As.length = n) (hsize : g.locals.size = nL) (hstack : g.stack = As.reverse ++ .ref b :: rest) (hW : 2 * g.monitorRoom + (rest.map fun v => v.category).sum ≤ 8) (hdg : decode cc g.pc = .ok (.invokevirtual index, 3)) (hf : cells + mc ≤ R.cells ∧ slots + ms ≤ R.slots) :
    vx_Run p l e R s m args below meth c H locs cells slots mc ms g rest (Qc (Value.ref b :: As).toArray) XC free := by
  obtain ⟨⟨hrc, hrs, hfr, hlo, hws, hcw⟩, hcode, hini, hy, hlen, hl, hin, hse⟩ := cw
  have hK : vx_Back l R p e below s args y 3 8 (PreOf R mc ms Pc) (PostOf Qc mc ms free) (vx_Post XC mc ms free) := vx_backW (hh := hh) (bytes := bytes) (maxL := maxL) (ret := ret) hM hp.1 hrc hrs hfr hlo hws hcw (fun a' U hW => word_at hW (Or.inl (by first | rfl | simp [Cond.onTables, Cond.keeps, Cond.steady])) hini)
  obtain ⟨hx, hb, hml, ho, -⟩ := S
  obtain ⟨-, ⟨cellB, hcB, hoB, hclB⟩, hPc⟩ := hp
  intro T hT X
  rcases vx_callVX X hx (C := C) (hh := hh) (bytes := bytes) (maxL := maxL) (ret := ret) ho hl hin hse hcode hy hK (by rw [hT]; exact hcB) hoB hclB hg (hsize.trans hml.symm) (argsL := As) (rest := rest) (fun sig h => hn.trans (hlen sig h)) hstack hW (by rw [hb]; exact hdg)
    (fun vm₁ hW₁ => ⟨hf.1, hf.2, hPc (T.setVm vm₁) hT hW₁⟩) with ⟨v, vm₁, ⟨U', l2, c2, s2⟩, hW₁, X', ⟨g', mk, t, L, e1, e2, hq, h1, hL, h2, h3⟩, st⟩ | ⟨q, vm₁, ⟨U', l2, c2, s2⟩, hW₁, X', ⟨g', mk, t, L, E, ce, e1, e2, hq, hce, hcv, hcl, h1, hL, h2, h3⟩, st⟩
  · dsimp only [Pt.U, Pt.locs, Pt.cells, Pt.slots] at X' e1 e2 h1 h2 h3 st
    subst h1; subst h2; subst h3
    exact Or.inl ⟨v, (T.setVm vm₁).calling g' mk (Value.ref b :: As).toArray, t, U', L, hT, X', hL, e1, e2, hq, st⟩
  · dsimp only [Pt.U, Pt.locs, Pt.cells, Pt.slots] at X' e1 e2 h1 h2 h3 st hcl
    subst h1; subst h2; subst h3
    exact Or.inr ⟨q, (T.setVm vm₁).calling g' mk (Value.ref b :: As).toArray, t, U', L, E, ce, hT, X', hL, e1, e2, hq, hce, hcv, vx_cls hW₁ hcl, st⟩
theorem vx_runSX {hh : List (Nat × Nat × Nat × Nat)} (S : CallFix p m c cc nL s args Ts own) (hM : vx_Met l y ws rm Pc Qc XC mc ms free) (cw : vx_CSW R s args own index y bytes maxL ret hh ws rm mc ms n) (hp : PreS s H Pc As)
    (hg : g.method = m) (hn : As.length = n) (hsize : g.locals.size = nL) (hstack : g.stack = As.reverse ++ rest) (hW : 2 * g.monitorRoom + (rest.map fun v => v.category).sum ≤ 8) (hdg : decode cc g.pc = .ok (.invokestatic index, 3)) (hf : cells + mc ≤ R.cells ∧ slots + ms ≤ R.slots) :
    vx_Run p l e R s m args below meth c H locs cells slots mc ms g rest (Qc As.toArray) XC free := by
  obtain ⟨⟨hrc, hrs, hfr, hlo, hws, hcw⟩, hcode, hini, hy, hlen, hl, hstt⟩ := cw
  have hK : vx_Back l R p e below s args y 3 8 (PreOf R mc ms Pc) (PostOf Qc mc ms free) (vx_Post XC mc ms free) := vx_backW (hh := hh) (bytes := bytes) (maxL := maxL) (ret := ret) hM hp.1 hrc hrs hfr hlo hws hcw (fun a' U hW => word_at hW (Or.inl (by first | rfl | simp [Cond.onTables, Cond.keeps, Cond.steady])) hini)
  obtain ⟨hx, hb, hml, ho, -⟩ := S
  intro T hT X
  rcases vx_callSX X hx (hh := hh) (bytes := bytes) (maxL := maxL) (ret := ret) ho hl hstt hini hcode hy hK hg (hsize.trans hml.symm) (argsL := As) (rest := rest) (fun sig h => hn.trans (hlen sig h)) hstack hW (by rw [hb]; exact hdg)
    (fun vm₁ hW₁ => ⟨hf.1, hf.2, hp.2 (T.setVm vm₁) hT hW₁⟩) with ⟨v, vm₁, ⟨U', l2, c2, s2⟩, hW₁, X', ⟨g', mk, t, L, e1, e2, hq, h1, hL, h2, h3⟩, st⟩ | ⟨q, vm₁, ⟨U', l2, c2, s2⟩, hW₁, X', ⟨g', mk, t, L, E, ce, e1, e2, hq, hce, hcv, hcl, h1, hL, h2, h3⟩, st⟩
  · dsimp only [Pt.U, Pt.locs, Pt.cells, Pt.slots] at X' e1 e2 h1 h2 h3 st
    subst h1; subst h2; subst h3
    exact Or.inl ⟨v, (T.setVm vm₁).calling g' mk As.toArray, t, U', L, hT, X', hL, e1, e2, hq, st⟩
  · dsimp only [Pt.U, Pt.locs, Pt.cells, Pt.slots] at X' e1 e2 h1 h2 h3 st hcl
    subst h1; subst h2; subst h3
    exact Or.inr ⟨q, (T.setVm vm₁).calling g' mk As.toArray, t, U', L, E, ce, hT, X', hL, e1, e2, hq, hce, hcv, vx_cls hW₁ hcl, st⟩
end
end VXH
theorem vx_ofWH {l : Launch} {y : MethodName} {ws ws' : List Cond} {rm : Room} {Pc : Array Value → State → Prop} {Qc : Array Value → State → Outcome → State → Prop} {XC : String → State → State → Prop} {mc ms : Nat} {free : Addr → Prop} {cc : ByteArray} {maxL : Nat} {ret : Option FieldType} {hh : List (Nat × Nat × Nat × Nat)}
    (hy : plainName y.cls = true) (hw : ws = Cond.codeWith y cc maxL ret hh :: ws')
    (body : ∀ p e s m args below meth c s₁, BodyLoose p l y (headSpec ws rm) cc maxL ret e s m args below meth c s₁ → c.maxLocals = maxL → Pc args s →
      W p l e (headSpec ws rm).room s m args below meth c s.heap [] 0 0 (vx_MQ below Qc XC args s mc ms free) (entryFrame m args maxL)) : vx_Met l y ws rm Pc Qc XC mc ms free := by
  refine MetFree.of_bodyS (code := cc) (maxLocals := maxL) (ret := ret) hy ?_ ?_
  · intro args s m h hn
    obtain ⟨m9, meth, c, hn9, h1, h2, h3, h4, -, h5, h6, -⟩ := Cond.codeWith_spec (atoms_spec (ws := ws) h _ (by rw [hw]; exact List.mem_cons_self))
    cases hn.symm.trans hn9
    exact ⟨meth, c, h1, h2, h3, h4, h5, h6⟩
  · intro p e s m args below meth c s₁ B hml hP _
    have hh0 : s₁.heap = s.heap := by rw [B.state]; rfl
    obtain ⟨t, a1, o, b1, b2, b3⟩ := body p e s m args below meth c s₁ B hml hP s₁ hh0 (Stand.of_body B)
    exact ⟨t, o, a1, b1, b2, b3⟩
/-! ===== END ===== -/
end
section
/-! ===== THE SMALL MACHINE: memory, locals, one straight instruction ===== -/
/-- shapes of the cells (0 int[], 1 boolean[], 2 long[], 3 int[][], 4 + class: an object); references; ints; longs -/
abbrev mj_M : Type := List (Nat × Nat) × List ((Nat × Nat) × Nat) × (Nat → Nat → Int32) × (Nat → Nat → Int64)
/-- the tables' numbers, the array classes, the first address, addresses of constants -/
abbrev mj_Om : Type := va_G × (Nat → ClassId) × Nat × (Nat → Nat)
def mj_q (Ω : mj_Om) (c : Nat) : Nat := if c < 1000 then Ω.2.2.1 + c else Ω.2.2.2 c
def mj_v (Ω : mj_Om) : Value → Value
  | .ref c => .ref (mj_q Ω c)
  | v => v
def mj_A (Ω : mj_Om) : Nat → Prop := fun a => Ω.2.2.1 ≤ a
def mj_kds (ci : Nat) : List Nat := mj_kdT.getD ci []
def mj_rf (M : mj_M) (c k : Nat) : Option Nat := M.2.1.lookup (c, k)
def mj_rv : Option Nat → Value
  | none => .null
  | some a => .ref a
def mj_fv (M : mj_M) (c kd k : Nat) : Value := match kd with
  | 2 => .long (M.2.2.2 c k)
  | 3 => mj_rv (mj_rf M c k)
  | _ => .int (M.2.2.1 c k)
def mj_fs (Ω : mj_Om) (M : mj_M) (c ci : Nat) : List Value := (mj_kds ci).mapIdx (fun k kd => mj_v Ω (mj_fv M c kd k))
def mj_cell (Ω : mj_Om) (M : mj_M) (c : Nat) (sh : Nat × Nat) : va_E := match sh.1 with
  | 0 => .inl (Ω.2.1 0, sh.2, .inl (M.2.2.1 c))
  | 1 => .inl (Ω.2.1 1, sh.2, .inl (M.2.2.1 c))
  | 2 => .inl (Ω.2.1 2, sh.2, .inr (.inl (M.2.2.2 c)))
  | 3 => .inl (Ω.2.1 3, sh.2, .inr (.inr (.inr (.inr (fun k => (mj_rf M c k).map (mj_q Ω))))))
  | k + 4 => .inr (k, mj_fs Ω M c k)
def mj_w (Ω : mj_Om) (M : mj_M) : va_W := M.1.mapIdx (fun c sh => (Ω.2.2.1 + c, mj_cell Ω M c sh))
abbrev mj_ty (Ω : mj_Om) : List (ClassId × FieldType) := [(Ω.2.1 0, .int), (Ω.2.1 1, .boolean), (Ω.2.1 2, .long), (Ω.2.1 3, .array .int)]
def mj_sh (M : mj_M) (c : Nat) : Option (Nat × Nat) := if c < 1000 then M.1[c]? else none
def mj_has (Ω : mj_Om) (ls : Array Slot) (nL : Nat) (L : List (Option Value)) : Prop := ls.size = nL ∧ lv_wf ls ∧ ∀ (i : Nat) (v : Value), L[i]? = some (some v) → ls[i]? = some (.val (mj_v Ω v))
def mj_l (Ω : mj_Om) (L : List (Option Value)) : List (Nat × Value) := (List.range L.length).filterMap (fun i => (L.getD i none).map (fun v => (i, mj_v Ω v)))
/-- memory changed at one int, at one long -/
def mj_ui (I : Nat → Nat → Int32) (c k : Nat) (x : Int32) : Nat → Nat → Int32 := fun a b => if a = c then (if b = k then x else I a b) else I a b
def mj_ul (J : Nat → Nat → Int64) (c k : Nat) (x : Int64) : Nat → Nat → Int64 := fun a b => if a = c then (if b = k then x else J a b) else J a b
theorem mj_w_at {Ω : mj_Om} {M : mj_M} {c : Nat} {sh : Nat × Nat} (h : mj_sh M c = some sh) : (mj_w Ω M)[c]? = some (mj_q Ω c, mj_cell Ω M c sh) := by
  unfold mj_sh at h
  by_cases hc : c < 1000
  · rw [if_pos hc] at h
    simp [mj_w, List.getElem?_mapIdx, h, mj_q, hc]
  · rw [if_neg hc] at h; cases h
theorem mj_D {Ω : mj_Om} {M : mj_M} : va_D (mj_A Ω) (mj_w Ω M) := by
  refine ⟨fun i j p q hi hj h => ?_, fun k q h => ?_⟩
  · simp only [mj_w, List.getElem?_mapIdx, Option.map_eq_some_iff] at hi hj
    obtain ⟨a, -, rfl⟩ := hi
    obtain ⟨b, -, rfl⟩ := hj
    simp only at h
    omega
  · simp only [mj_w, List.getElem?_mapIdx, Option.map_eq_some_iff] at h
    obtain ⟨a, -, rfl⟩ := h
    show Ω.2.2.1 ≤ Ω.2.2.1 + k
    omega
/-- a change of one cell -/
theorem mj_w_set {Ω : mj_Om} {M M' : mj_M} {c : Nat} {sh : Nat × Nat} (h : mj_sh M c = some sh) (h1 : M'.1 = M.1) (h2 : ∀ a s, a ≠ c → M.1[a]? = some s → mj_cell Ω M' a s = mj_cell Ω M a s) : (mj_w Ω M).set c (mj_q Ω c, mj_cell Ω M' c sh) = mj_w Ω M' := by
  have hc : c < 1000 := by
    unfold mj_sh at h
    by_cases hc : c < 1000
    · exact hc
    · rw [if_neg hc] at h; cases h
  have h' : M.1[c]? = some sh := by unfold mj_sh at h; rwa [if_pos hc] at h
  apply List.ext_getElem?
  intro i
  have hlen : c < (mj_w Ω M).length := by
    simp only [mj_w, List.length_mapIdx]
    exact (List.getElem?_eq_some_iff.mp h').1
  by_cases hi : i = c
  · subst hi
    rw [List.getElem?_set_self hlen]
    simp [mj_w, List.getElem?_mapIdx, h1, h', mj_q, hc]
  · rw [List.getElem?_set_ne (Ne.symm hi)]
    simp only [mj_w, List.getElem?_mapIdx, h1]
    cases hm : M.1[i]? with
    | none => rfl
    | some s =>
      simp only [Option.map_some]
      rw [h2 i s hi hm]
theorem mj_l_of {Ω : mj_Om} {ls : Array Slot} {nL : Nat} {L : List (Option Value)} (h : mj_has Ω ls nL L) : lv_has ls nL (mj_l Ω L) := by
  refine ⟨h.1, h.2.1, fun q hq => ?_⟩
  obtain ⟨i, hi, hv⟩ := List.mem_filterMap.mp hq
  have hlt := List.mem_range.mp hi
  cases hg : L.getD i none with
  | none => rw [hg] at hv; cases hv
  | some v =>
    rw [hg] at hv
    cases hv
    refine h.2.2 i v ?_
    rw [List.getD_eq_getElem?_getD] at hg
    cases he : L[i]? with
    | none => rw [he] at hg; cases hg
    | some z => rw [he] at hg; simp at hg; rw [hg]
def mj_ok1 (L : List (Option Value)) : Nat → Bool
  | 0 => true
  | j + 1 => match L.getD j none with
    | some v => v.category == 1
    | none => true
theorem mj_v_cat (Ω : mj_Om) (v : Value) : (mj_v Ω v).category = v.category := by cases v <;> rfl
theorem mj_st {Ω : mj_Om} {ls' : Array Slot} {nL i : Nat} {L : List (Option Value)} {v : Value} (hok : mj_ok1 L i = true) (h : lv_has ls' nL ((i, mj_v Ω v) :: (mj_l Ω L).filter (fun q => !(q.1 == i) && !(q.1 + 1 == i && q.2.category == 2)))) : mj_has Ω ls' nL (L.set i (some v)) := by
  refine ⟨h.1, h.2.1, fun j w hw => ?_⟩
  by_cases hj : j = i
  · subst hj
    have hlt : j < L.length := by
      have := (List.getElem?_eq_some_iff.mp hw).1
      simpa using this
    rw [List.getElem?_set_self hlt] at hw
    cases hw
    exact h.2.2 (j, mj_v Ω v) List.mem_cons_self
  · rw [List.getElem?_set_ne (Ne.symm hj)] at hw
    have hlt : j < L.length := (List.getElem?_eq_some_iff.mp hw).1
    have hg : L.getD j none = some w := by rw [List.getD_eq_getElem?_getD, hw]; rfl
    refine h.2.2 (j, mj_v Ω w) (List.mem_cons_of_mem _ (List.mem_filter.mpr ⟨List.mem_filterMap.mpr ⟨j, List.mem_range.mpr hlt, by rw [hg]; rfl⟩, ?_⟩))
    have h1 : (j == i) = false := by simpa using hj
    simp only [h1, Bool.not_false, Bool.true_and, Bool.not_eq_true']
    by_cases h2 : j + 1 = i
    · subst h2
      simp only [mj_ok1, hg, beq_iff_eq] at hok
      simp [mj_v_cat, hok]
    · simp [h2]
/-! one instruction that goes straight on: what it asks, and what it leaves to K -/
abbrev mj_S : Type := List (Option Value) × List Value × mj_M
def mj_ld (L : List (Option Value)) (k : Nat) : Option Value := (L.getD k none)
def mj_fl (o idx : Nat) : Option (Nat × Nat) := (mj_flT.getD o []).lookup idx
/-- a condition that a number decides where it is known -/
def mj_gd (b : Bool) (K : Prop) : Prop := match b with
  | true => K
  | false => False
def mj_inB (i : Int32) (n : Nat) : Bool := decide (0 ≤ i) && decide (i.toNatClampNeg < n)
theorem mj_gd_iff {b : Bool} {K : Prop} : mj_gd b K ↔ b = true ∧ K := by
  cases b <;> simp [mj_gd]
theorem mj_inB_iff {i : Int32} {n : Nat} : mj_inB i n = true ↔ vp_in i n := by
  simp only [mj_inB, vp_in, Bool.and_eq_true, decide_eq_true_eq, not_or, Int32.not_lt, Nat.not_le]
theorem mj_gdI {i : Int32} {n : Nat} {K : Prop} (h : mj_gd (mj_inB i n) K) : vp_in i n ∧ K := ⟨mj_inB_iff.mp (mj_gd_iff.mp h).1, (mj_gd_iff.mp h).2⟩
theorem mj_gd0 {y : Int32} {K : Prop} (h : mj_gd (!decide (y = 0)) K) : ¬ y = 0 ∧ K := by
  obtain ⟨h1, h2⟩ := mj_gd_iff.mp h
  exact ⟨by simpa using h1, h2⟩
theorem mj_gdL {y : Int64} {K : Prop} (h : mj_gd (!decide (y = 0)) K) : ¬ y = 0 ∧ K := by
  obtain ⟨h1, h2⟩ := mj_gd_iff.mp h
  exact ⟨by simpa using h1, h2⟩
theorem mj_gd1 {x : Int32} {K : Prop} (h : mj_gd (decide (x = 0) || decide (x = 1)) K) : (x = 0 ∨ x = 1) ∧ K := by
  obtain ⟨h1, h2⟩ := mj_gd_iff.mp h
  exact ⟨by simpa using h1, h2⟩
def mj_push (v : Value) (S : mj_S) (K : mj_S → Prop) : Prop := K (S.1, v :: S.2.1, S.2.2)
def mj_iload (k : Nat) (S : mj_S) (K : mj_S → Prop) : Prop := match mj_ld S.1 k with
  | some (.int x) => K (S.1, .int x :: S.2.1, S.2.2)
  | _ => False
def mj_lload (k : Nat) (S : mj_S) (K : mj_S → Prop) : Prop := match mj_ld S.1 k with
  | some (.long x) => K (S.1, .long x :: S.2.1, S.2.2)
  | _ => False
def mj_aload (k : Nat) (S : mj_S) (K : mj_S → Prop) : Prop := match mj_ld S.1 k with
  | some (.ref x) => K (S.1, .ref x :: S.2.1, S.2.2)
  | _ => False
def mj_put1 (nL k : Nat) (L : List (Option Value)) (v : Value) (K : List (Option Value) → Prop) : Prop := match mj_ok1 L k && decide (k < nL) with
  | true => K (L.set k (some v))
  | false => False
def mj_istore (nL k : Nat) (S : mj_S) (K : mj_S → Prop) : Prop := match S.2.1 with
  | .int x :: st => mj_put1 nL k S.1 (.int x) (fun L => K (L, st, S.2.2))
  | _ => False
def mj_astore (nL k : Nat) (S : mj_S) (K : mj_S → Prop) : Prop := match S.2.1 with
  | .ref x :: st => mj_put1 nL k S.1 (.ref x) (fun L => K (L, st, S.2.2))
  | _ => False
def mj_iinc (nL k : Nat) (n : Int) (S : mj_S) (K : mj_S → Prop) : Prop := match mj_ld S.1 k with
  | some (.int x) => mj_put1 nL k S.1 (.int (x + Int32.ofInt n)) (fun L => K (L, S.2.1, S.2.2))
  | _ => False
def mj_i1 (f : Int32 → Int32) (S : mj_S) (K : mj_S → Prop) : Prop := match S.2.1 with
  | .int x :: st => K (S.1, .int (f x) :: st, S.2.2)
  | _ => False
def mj_i2 (f : Int32 → Int32 → Int32) (S : mj_S) (K : mj_S → Prop) : Prop := match S.2.1 with
  | .int y :: .int x :: st => K (S.1, .int (f x y) :: st, S.2.2)
  | _ => False
def mj_i2n (f : Int32 → Int32 → Int32) (S : mj_S) (K : mj_S → Prop) : Prop := match S.2.1 with
  | .int y :: .int x :: st => mj_gd (!decide (y = 0)) (K (S.1, .int (f x y) :: st, S.2.2))
  | _ => False
def mj_l2 (f : Int64 → Int64 → Int64) (S : mj_S) (K : mj_S → Prop) : Prop := match S.2.1 with
  | .long y :: .long x :: st => K (S.1, .long (f x y) :: st, S.2.2)
  | _ => False
def mj_l2n (f : Int64 → Int64 → Int64) (S : mj_S) (K : mj_S → Prop) : Prop := match S.2.1 with
  | .long y :: .long x :: st => mj_gd (!decide (y = 0)) (K (S.1, .long (f x y) :: st, S.2.2))
  | _ => False
def mj_lsh (f : Int64 → Int32 → Int64) (S : mj_S) (K : mj_S → Prop) : Prop := match S.2.1 with
  | .int y :: .long x :: st => K (S.1, .long (f x y) :: st, S.2.2)
  | _ => False
def mj_lcmp (S : mj_S) (K : mj_S → Prop) : Prop := match S.2.1 with
  | .long y :: .long x :: st => K (S.1, .int (lg_cmp x y) :: st, S.2.2)
  | _ => False
def mj_i2l (S : mj_S) (K : mj_S → Prop) : Prop := match S.2.1 with
  | .int x :: st => K (S.1, .long x.toInt64 :: st, S.2.2)
  | _ => False
def mj_l2i (S : mj_S) (K : mj_S → Prop) : Prop := match S.2.1 with
  | .long x :: st => K (S.1, .int x.toInt32 :: st, S.2.2)
  | _ => False
def mj_dup (S : mj_S) (K : mj_S → Prop) : Prop := match S.2.1 with
  | .int x :: st => K (S.1, .int x :: .int x :: st, S.2.2)
  | .ref x :: st => K (S.1, .ref x :: .ref x :: st, S.2.2)
  | _ => False
def mj_dup2 (S : mj_S) (K : mj_S → Prop) : Prop := match S.2.1 with
  | .int x :: .ref y :: st => K (S.1, .int x :: .ref y :: .int x :: .ref y :: st, S.2.2)
  | .int x :: .int y :: st => K (S.1, .int x :: .int y :: .int x :: .int y :: st, S.2.2)
  | _ => False
def mj_pop (S : mj_S) (K : mj_S → Prop) : Prop := match S.2.1 with
  | .int _ :: st => K (S.1, st, S.2.2)
  | _ => False
/-- fields of a text -/
def mj_sf (o idx c : Nat) : Option Value := match decide (o = 14 ∧ 1010 ≤ c ∧ c < 1013) with
  | true => match idx with
    | 9 => some (.ref (c + 10))
    | 15 => some (.int 0)
    | _ => none
  | false => none
def mj_ldc2 (o idx : Nat) (S : mj_S) (K : mj_S → Prop) : Prop := match (mj_l2T.getD o []).lookup idx with
  | some x => K (S.1, .long x :: S.2.1, S.2.2)
  | none => False
def mj_get (o idx : Nat) (S : mj_S) (K : mj_S → Prop) : Prop := match S.2.1, mj_fl o idx with
  | .ref c :: st, some (ci, k) => match decide (mj_sh S.2.2 c = some (ci + 4, 0)) with
    | true => K (S.1, mj_fv S.2.2 c ((mj_kds ci).getD k 0) k :: st, S.2.2)
    | false => False
  | .ref c :: st, none => match mj_sf o idx c with
    | some v => K (S.1, v :: st, S.2.2)
    | none => False
  | _, _ => False
def mj_put (o idx : Nat) (ini : Bool) (S : mj_S) (K : mj_S → Prop) : Prop := match S.2.1, mj_fl o idx with
  | .ref x :: .ref c :: st, some (ci, k) => match decide (mj_sh S.2.2 c = some (ci + 4, 0) ∧ (mj_kds ci).getD k 9 = 3 ∧ ini = true ∧ ci = o) with
    | true => K (S.1, st, S.2.2.1, ((c, k), x) :: S.2.2.2.1, S.2.2.2.2)
    | false => False
  | .int x :: .ref c :: st, some (ci, k) => match decide (mj_sh S.2.2 c = some (ci + 4, 0)), (mj_kds ci).getD k 9 with
    | true, 0 => K (S.1, st, S.2.2.1, S.2.2.2.1, mj_ui S.2.2.2.2.1 c k x, S.2.2.2.2.2)
    | true, 1 => mj_gd (decide (x = 0) || decide (x = 1)) (K (S.1, st, S.2.2.1, S.2.2.2.1, mj_ui S.2.2.2.2.1 c k x, S.2.2.2.2.2))
    | _, _ => False
  | .long x :: .ref c :: st, some (ci, k) => match decide (mj_sh S.2.2 c = some (ci + 4, 0)), (mj_kds ci).getD k 9 with
    | true, 2 => K (S.1, st, S.2.2.1, S.2.2.2.1, S.2.2.2.2.1, mj_ul S.2.2.2.2.2 c k x)
    | _, _ => False
  | _, _ => False
def mj_ial (S : mj_S) (K : mj_S → Prop) : Prop := match S.2.1 with
  | .int i :: .ref c :: st => match mj_sh S.2.2 c with
    | some (0, n) => mj_gd (mj_inB i n) (K (S.1, .int (S.2.2.2.2.1 c i.toNatClampNeg) :: st, S.2.2))
    | none => match mj_kc c with
      | some (0, xs) => mj_gd (mj_inB i xs.length) (K (S.1, .int (xs.getD i.toNatClampNeg 0) :: st, S.2.2))
      | _ => False
    | _ => False
  | _ => False
def mj_lal (S : mj_S) (K : mj_S → Prop) : Prop := match S.2.1 with
  | .int i :: .ref c :: st => match mj_sh S.2.2 c with
    | some (2, n) => mj_gd (mj_inB i n) (K (S.1, .long (S.2.2.2.2.2 c i.toNatClampNeg) :: st, S.2.2))
    | _ => False
  | _ => False
def mj_bal (S : mj_S) (K : mj_S → Prop) : Prop := match S.2.1 with
  | .int i :: .ref c :: st => match mj_sh S.2.2 c with
    | some (1, n) => mj_gd (mj_inB i n) (K (S.1, .int (S.2.2.2.2.1 c i.toNatClampNeg) :: st, S.2.2))
    | none => match mj_kc c with
      | some (1, xs) => mj_gd (mj_inB i xs.length) (K (S.1, .int (xs.getD i.toNatClampNeg 0) :: st, S.2.2))
      | _ => False
    | _ => False
  | _ => False
def mj_ias (S : mj_S) (K : mj_S → Prop) : Prop := match S.2.1 with
  | .int x :: .int i :: .ref c :: st => match mj_sh S.2.2 c with
    | some (0, n) => mj_gd (mj_inB i n) (K (S.1, st, S.2.2.1, S.2.2.2.1, mj_ui S.2.2.2.2.1 c i.toNatClampNeg x, S.2.2.2.2.2))
    | _ => False
  | _ => False
def mj_bas (S : mj_S) (K : mj_S → Prop) : Prop := match S.2.1 with
  | .int x :: .int i :: .ref c :: st => match mj_sh S.2.2 c with
    | some (1, n) => mj_gd (mj_inB i n) (K (S.1, st, S.2.2.1, S.2.2.2.1, mj_ui S.2.2.2.2.1 c i.toNatClampNeg (vp_nar .boolean x), S.2.2.2.2.2))
    | _ => False
  | _ => False
def mj_las (S : mj_S) (K : mj_S → Prop) : Prop := match S.2.1 with
  | .long x :: .int i :: .ref c :: st => match mj_sh S.2.2 c with
    | some (2, n) => mj_gd (mj_inB i n) (K (S.1, st, S.2.2.1, S.2.2.2.1, S.2.2.2.2.1, mj_ul S.2.2.2.2.2 c i.toNatClampNeg x))
    | _ => False
  | _ => False
def mj_aal (S : mj_S) (K : mj_S → Prop) : Prop := match S.2.1 with
  | .int i :: .ref c :: st => match mj_sh S.2.2 c with
    | some (3, n) => mj_gd (mj_inB i n) (K (S.1, mj_rv (mj_rf S.2.2 c i.toNatClampNeg) :: st, S.2.2))
    | _ => False
  | _ => False
def mj_alen (S : mj_S) (K : mj_S → Prop) : Prop := match S.2.1 with
  | .ref c :: st => match mj_sh S.2.2 c with
    | some (0, n) => K (S.1, .int (Int32.ofNat n) :: st, S.2.2)
    | none => match mj_kc c with
      | some (_, xs) => K (S.1, .int (Int32.ofNat xs.length) :: st, S.2.2)
      | none => False
    | _ => False
  | _ => False
def mj_ldc (o idx : Nat) (S : mj_S) (K : mj_S → Prop) : Prop := match (mj_ldT.getD o []).lookup idx with
  | some x => K (S.1, .int x :: S.2.1, S.2.2)
  | none => False
def mj_ldcS (o idx : Nat) (S : mj_S) (K : mj_S → Prop) : Prop := match (mj_ldT.getD o []).lookup idx with
  | some x => K (S.1, .int x :: S.2.1, S.2.2)
  | none => match mj_lt o idx with
    | some i => K (S.1, .ref (1010 + i) :: S.2.1, S.2.2)
    | none => False
def mj_gst (o idx : Nat) (S : mj_S) (K : mj_S → Prop) : Prop := match mj_gs o idx with
  | some v => K (S.1, v :: S.2.1, S.2.2)
  | none => False
/-- the whole: o the class, ini a constructor, nL locals -/
def mj_stp (o : Nat) (ini : Bool) (nL : Nat) (i : Instr) (S : mj_S) (K : mj_S → Prop) : Prop := match i with
  | .iconst n => mj_push (.int (Int32.ofInt n)) S K
  | .bipush n => mj_push (.int (Int8.ofInt n).toInt32) S K
  | .sipush n => mj_push (.int (Int16.ofInt n).toInt32) S K
  | .lconst n => mj_push (.long (Int64.ofNat (n : Nat))) S K
  | .ldc k => mj_ldcS o k S K
  | .ldc_w k => mj_ldc o k S K
  | .ldc2_w k => mj_ldc2 o k S K
  | .iload_n k => mj_iload k S K
  | .iload k => mj_iload k S K
  | .lload_n k => mj_lload k S K
  | .lload k => mj_lload k S K
  | .aload_n k => mj_aload k S K
  | .aload k => mj_aload k S K
  | .istore_n k => mj_istore nL k S K
  | .istore k => mj_istore nL k S K
  | .astore_n k => mj_astore nL k S K
  | .astore k => mj_astore nL k S K
  | .iinc k n => mj_iinc nL k n S K
  | .iadd => mj_i2 (fun x y => x + y) S K
  | .isub => mj_i2 (fun x y => x - y) S K
  | .imul => mj_i2 (fun x y => x * y) S K
  | .iand => mj_i2 (fun x y => x &&& y) S K
  | .ior => mj_i2 (fun x y => x ||| y) S K
  | .ishl => mj_i2 (fun x y => x <<< (y &&& 31)) S K
  | .ishr => mj_i2 (fun x y => x >>> (y &&& 31)) S K
  | .iushr => mj_i2 (fun x y => (x.toUInt32 >>> (y.toUInt32 &&& Int32.toUInt32 31)).toInt32) S K
  | .idiv => mj_i2n (fun x y => x / y) S K
  | .irem => mj_i2n (fun x y => x - x / y * y) S K
  | .ineg => mj_i1 (fun x => -x) S K
  | .i2b => mj_i1 (fun x => x.toInt8.toInt32) S K
  | .i2c => mj_i1 (fun x => (x.toUInt32 % 65536).toInt32) S K
  | .ladd => mj_l2 (fun x y => x + y) S K
  | .lsub => mj_l2 (fun x y => x - y) S K
  | .lmul => mj_l2 (fun x y => x * y) S K
  | .land => mj_l2 (fun x y => x &&& y) S K
  | .lor => mj_l2 (fun x y => x ||| y) S K
  | .ldiv => mj_l2n (fun x y => x / y) S K
  | .lrem => mj_l2n (fun x y => x - x / y * y) S K
  | .lshl => mj_lsh (fun x y => x <<< (y.toInt64 &&& 63)) S K
  | .lushr => mj_lsh (fun x y => (x.toUInt64 >>> (y.toInt64.toUInt64 &&& Int64.toUInt64 63)).toInt64) S K
  | .lcmp => mj_lcmp S K
  | .i2l => mj_i2l S K
  | .l2i => mj_l2i S K
  | .dup => mj_dup S K
  | .dup2 => mj_dup2 S K
  | .pop => mj_pop S K
  | .getfield k => mj_get o k S K
  | .putfield k => mj_put o k ini S K
  | .iaload => mj_ial S K
  | .laload => mj_lal S K
  | .baload => mj_bal S K
  | .aaload => mj_aal S K
  | .iastore => mj_ias S K
  | .lastore => mj_las S K
  | .bastore => mj_bas S K
  | .arraylength => mj_alen S K
  | _ => False
/-- a straight stretch -/
def mj_run (o : Nat) (ini : Bool) (nL : Nat) : List Instr → mj_S → (mj_S → Prop) → Prop
  | [], S, K => K S
  | i :: is, S, K => mj_stp o ini nL i S (fun S' => mj_run o ini nL is S' K)
def mj_dec (cc : ByteArray) (pc : Nat) : List Instr → Nat → Prop
  | [], pe => pc = pe
  | i :: is, pe => decode cc pc = .ok (i, mj_len i) ∧ mj_dec cc (pc + mj_len i) is pe
end
section
/-! ===== what the tables say, for the small machine ===== -/
def mj_ftOk (kd : Nat) (ty : Option FieldType) : Bool := match kd, ty with
  | 0, some .int => true
  | 1, some .boolean => true
  | 2, some .long => true
  | 3, some (.object _) => true
  | 3, some (.array _) => true
  | _, _ => false
def mj_clsB (ci : Nat) (q : vw_C) : Bool :=
  (u_ws q.1 q.2.1 q.2.2).all mj_gw && decide ((mj_kds ci).length = q.2.2) &&
  (List.range q.2.2).all (fun k => mj_ftOk ((mj_kds ci).getD k 9) (parseFieldDescriptor (q.2.1 k).2.2.1) && decide ((q.2.1 k).2.2.2 = decide ((mj_kds ci).getD k 9 = 3)) && decide ((q.2.1 k).1 = q.1) &&
    (List.range q.2.2).all (fun b => decide (k = b) || decide ((q.2.1 k).2.1 ≠ (q.2.1 b).2.1)))
set_option maxRecDepth 100000 in
theorem mj_clsT : (List.range 13).all (fun ci => match vwCl[ci]? with
  | some q => mj_clsB ci q
  | none => false) = true := by decide +kernel
def mj_flB (o : Nat) (e : Nat × Nat × Nat) : Bool := match vwCl[e.2.1]? with
  | some q => decide (e.2.2 < q.2.2) && mj_gw (.fieldLink (mj_own.getD o "") e.1 (q.2.1 e.2.2).1 (q.2.1 e.2.2).2.1 (q.2.1 e.2.2).2.2.1)
  | none => false
set_option maxRecDepth 100000 in
theorem mj_flTT : (List.range 14).all (fun o => (mj_flT.getD o []).all (mj_flB o)) = true := by decide +kernel
set_option maxRecDepth 100000 in
theorem mj_ldTT : (List.range 14).all (fun o => (mj_ldT.getD o []).all (fun e => mj_gw (.constant (mj_own.getD o "") e.1 e.2))) = true := by decide +kernel
set_option maxRecDepth 100000 in
theorem mj_l2TT : (List.range 14).all (fun o => (mj_l2T.getD o []).all (fun e => mj_gw (.constantLong (mj_own.getD o "") e.1 e.2))) = true := by decide +kernel
end
section
/-! ===== the straight instruction is the machine's ===== -/
theorem mj_lookup_mem {β : Type} {k : Nat} {v : β} : ∀ {l : List (Nat × β)}, l.lookup k = some v → (k, v) ∈ l
  | [], h => by cases h
  | (a, b) :: l, h => by
    rw [List.lookup_cons] at h
    by_cases e : k = a
    · subst e
      simp at h
      subst h
      exact List.mem_cons_self
    · have e' : (k == a) = false := by simpa using e
      rw [e'] at h
      exact List.mem_cons_of_mem _ (mj_lookup_mem h)
theorem mj_getD_nil {α : Type} {l : List (List α)} {o n : Nat} {x : α} (hn : l.length ≤ n) (h : x ∈ l.getD o []) : o < n := by
  rcases Nat.lt_or_ge o n with q | q
  · exact q
  · rw [List.getD_eq_getElem?_getD, List.getElem?_eq_none (by omega)] at h
    simp at h
def mj_clsP (ci : Nat) (q : vw_C) : Prop := (∀ w ∈ u_ws q.1 q.2.1 q.2.2, w ∈ mj_GW) ∧ (mj_kds ci).length = q.2.2 ∧
  (∀ k, k < q.2.2 → mj_ftOk ((mj_kds ci).getD k 9) (parseFieldDescriptor (q.2.1 k).2.2.1) = true ∧ (q.2.1 k).2.2.2 = decide ((mj_kds ci).getD k 9 = 3) ∧ (q.2.1 k).1 = q.1) ∧
  (∀ a, a < q.2.2 → ∀ b, b < q.2.2 → a ≠ b → (q.2.1 a).2.1 ≠ (q.2.1 b).2.1)
theorem mj_cls {ci : Nat} {q : vw_C} (h : vwCl[ci]? = some q) : mj_clsP ci q := by
  have hlt : ci < 13 := (List.getElem?_eq_some_iff.mp h).1
  have h1 := List.all_eq_true.mp mj_clsT ci (List.mem_range.mpr hlt)
  rw [h] at h1
  simp only [mj_clsB, Bool.and_eq_true, List.all_eq_true, decide_eq_true_eq, List.mem_range, Bool.or_eq_true] at h1
  obtain ⟨⟨h2, h3⟩, h4⟩ := h1
  refine ⟨fun w hw => mj_gw_in (h2 w hw), h3, fun k hk => ⟨(h4 k hk).1.1.1, (h4 k hk).1.1.2, (h4 k hk).1.2⟩, fun a ha b hb hne => ?_⟩
  rcases (h4 a ha).2 b hb with e | e
  · exact absurd e hne
  · exact e
theorem mj_flP {o idx ci k : Nat} (h : mj_fl o idx = some (ci, k)) : ∃ q, vwCl[ci]? = some q ∧ k < q.2.2 ∧ Cond.fieldLink (mj_own.getD o "") idx (q.2.1 k).1 (q.2.1 k).2.1 (q.2.1 k).2.2.1 ∈ mj_GW := by
  have hm := mj_lookup_mem h
  have ho : o < 14 := mj_getD_nil (Nat.le_of_ble_eq_true rfl) hm
  have h1 := List.all_eq_true.mp (List.all_eq_true.mp mj_flTT o (List.mem_range.mpr ho)) _ hm
  simp only [mj_flB] at h1
  cases hq : vwCl[ci]? with
  | none => rw [hq] at h1; cases h1
  | some q =>
    rw [hq] at h1
    simp only [Bool.and_eq_true, decide_eq_true_eq] at h1
    exact ⟨q, rfl, h1.1, mj_gw_in h1.2⟩
theorem mj_ldP {o idx : Nat} {x : Int32} (h : (mj_ldT.getD o []).lookup idx = some x) : Cond.constant (mj_own.getD o "") idx x ∈ mj_GW := by
  have hm := mj_lookup_mem h
  have ho : o < 14 := mj_getD_nil (Nat.le_of_ble_eq_true rfl) hm
  have h1 := List.all_eq_true.mp mj_ldTT o (List.mem_range.mpr ho)
  have h2 : mj_gw (Cond.constant (mj_own.getD o "") idx x) = true := List.all_eq_true.mp h1 (idx, x) hm
  exact mj_gw_in h2
theorem mj_l2P {o idx : Nat} {x : Int64} (h : (mj_l2T.getD o []).lookup idx = some x) : Cond.constantLong (mj_own.getD o "") idx x ∈ mj_GW := by
  have hm := mj_lookup_mem h
  have ho : o < 14 := mj_getD_nil (Nat.le_of_ble_eq_true rfl) hm
  have h1 := List.all_eq_true.mp mj_l2TT o (List.mem_range.mpr ho)
  have h2 : mj_gw (Cond.constantLong (mj_own.getD o "") idx x) = true := List.all_eq_true.mp h1 (idx, x) hm
  exact mj_gw_in h2
/-- nest words, carried by the state -/
def mj_isN : Cond → Bool
  | .methodLinkNest .. => true
  | .arrayOver _ => true
  | .declares _ => true
  | .castable _ _ => true
  | _ => false
theorem mj_AOw {ty : FieldType} {s U : State} (hal : s.vm.Alike U.vm) (h : va_Nw (.arrayOver ty) s) : va_Nw (.arrayOver ty) U := by
  have h1 : (Cond.arrayOver ty).before #[] (s.setVm U.vm) = true := (Cond.arrayOver_setVmC (args := #[]) (s := s) hal ty).trans h
  exact h1
def mj_NW : List Cond := lw_tbl.filter mj_isN
def mj_Kz (Ω : mj_Om) (U : State) (H : Heap) : Prop :=
  (∀ (k : Nat) (q : String × Nat × List Int32), mj_kI[k]? = some q → va_Z RX10 q.1 "[I" (.ref (Ω.2.2.2 (1000 + k))) (mj_A Ω) U H ∧ va_T .int (Ω.2.2.2 (1000 + k)) q.2.2.length (fun j => .int (q.2.2.getD j 0)) (mj_A Ω) U H) ∧
  (va_Z "java/lang/String" "COMPACT_STRINGS" "Z" (.int 1) (mj_A Ω) U H ∧ vx_Zq Bundle.tN "UNASSIGNED_STACK" Bundle.steD (mj_A Ω) U H ∧ vx_Zq Bundle.tN "SUPPRESSED_SENTINEL" Bundle.listD (mj_A Ω) U H) ∧
  (∀ (k : Nat) (q : Nat × Nat × String × List Int32), mj_kS[k]? = some q → va_O "java/lang/String" (Ω.2.2.2 (1010 + k)) (mj_A Ω) U H ∧ va_OF "java/lang/String" "coder" "B" (.int 0) (Ω.2.2.2 (1010 + k)) (mj_A Ω) U H ∧ va_OF "java/lang/String" "value" "[B" (.ref (Ω.2.2.2 (1020 + k))) (Ω.2.2.2 (1010 + k)) (mj_A Ω) U H ∧ va_T .byte (Ω.2.2.2 (1020 + k)) q.2.2.2.length (fun j => .int (q.2.2.2.getD j 0)) (mj_A Ω) U H)
def mj_Kr (Ω : mj_Om) (U : State) : Prop := ∀ (k : Nat) (q : Nat × Nat × String × List Int32), mj_kS[k]? = some q → vk_R (mj_own.getD q.1 "") q.2.1 q.2.2.1 (Ω.2.2.2 (1010 + k)) U
def mj_Kc (Ω : mj_Om) (U : State) : Prop := (∀ w ∈ mj_NW, va_Nw w U) ∧ mj_Kz Ω U U.heap ∧ mj_Kr Ω U
theorem mj_Kz_moved {Ω : mj_Om} {u U : State} {H : Heap} (hvm : u.vm.Alike U.vm) (h : mj_Kz Ω u H) : mj_Kz Ω U H :=
  ⟨fun k q hq => ⟨va_Z.moved hvm (h.1 k q hq).1, va_T.moved hvm (h.1 k q hq).2⟩, ⟨va_Z.moved hvm h.2.1.1, vx_Zq.moved hvm h.2.1.2.1, vx_Zq.moved hvm h.2.1.2.2⟩, fun k q hq => ⟨va_O.moved hvm (h.2.2 k q hq).1, va_OF.moved hvm (h.2.2 k q hq).2.1, va_OF.moved hvm (h.2.2 k q hq).2.2.1, va_T.moved hvm (h.2.2 k q hq).2.2.2⟩⟩
theorem mj_Kz_kept {Ω : mj_Om} {U : State} {H H1 : Heap} (h : mj_Kz Ω U H) (hq : ∀ a : Nat, a < H.size → ¬ mj_A Ω a → H1[a]? = H[a]?) : mj_Kz Ω U H1 :=
  ⟨fun k q hk => ⟨(h.1 k q hk).1.kept hq, (h.1 k q hk).2.kept hq⟩, ⟨h.2.1.1.kept hq, h.2.1.2.1.kept hq, h.2.1.2.2.kept hq⟩, fun k q hk => ⟨(h.2.2 k q hk).1.kept hq, (h.2.2 k q hk).2.1.kept hq, (h.2.2 k q hk).2.2.1.kept hq, (h.2.2 k q hk).2.2.2.kept hq⟩⟩
theorem mj_Kc_warm {Ω : mj_Om} {s U : State} (h : mj_Kc Ω s) (hW : s.WarmedH U.vm) (hq : ∀ a : Nat, a < s.heap.size → ¬ mj_A Ω a → U.heap[a]? = s.heap[a]?) : mj_Kc Ω U := by
  refine ⟨fun w hw => ?_, mj_Kz_moved hW.alike (mj_Kz_kept h.2.1 hq), fun k q hk => vk_R.warm hW (h.2.2 k q hk)⟩
  have h1 := h.1 w hw
  have h2 := (List.mem_filter.mp hw).2
  cases w <;> first | (simp [mj_isN] at h2; done) | exact va_Nw.warmM hW h1 | exact mj_AOw hW.alike h1 | exact va_Nw.warmD hW h1 | exact va_Nw.warmC hW h1
theorem mj_Kc_same {Ω : mj_Om} {s U : State} (h : mj_Kc Ω s) (hv : U.vm = s.vm) (hh : U.heap = s.heap) : mj_Kc Ω U := by
  refine ⟨fun w hw => ?_, ?_, fun k q hk => vk_R.same hv (h.2.2 k q hk)⟩
  · have h1 := h.1 w hw
    have h2 := (List.mem_filter.mp hw).2
    cases w <;> first | (simp [mj_isN] at h2; done) | exact va_Nw.same rfl hv.symm h1 | exact mj_AOw (by rw [hv]; exact Vm.Alike.refl s.vm) h1
  · rw [hh]
    exact mj_Kz_moved (by rw [hv]; exact Vm.Alike.refl s.vm) h.2.1
/-- the frame of a method that runs: its code, class, words, world's tables -/
def mj_F (Ω : mj_Om) (p : Program) (s : State) (m : MethodId) (args : Array Value) (meth : Method) (c : Code) (o : Nat) (ini : Bool) (cc : ByteArray) (nL : Nat) (ret : Option FieldType) : Prop :=
  p.tables.exec = Jvm.exec ∧ c.code = cc ∧ c.maxLocals = nL ∧ s.vm.findClass (mj_own.getD o "") = some m.cls ∧ (∀ w ∈ mj_GW, w.before args s = true) ∧ meth.sig.returnType = ret ∧ meth.locks = false ∧ va_K Ω.1 vwCl (mj_ty Ω) s ∧ (ini = true → meth.name = "<init>") ∧ Ω.2.2.1 ≤ s.heap.size ∧ mj_Kc Ω s
/-- the heap holds the memory -/
def mj_H (Ω : mj_Om) (al : Bool) (M : mj_M) (s : State) (H : Heap) (locs : List Loc) : Prop :=
  va_P Ω.1 vwCl (mj_w Ω M) H ∧ (al = true → H.size = Ω.2.2.1 + M.1.length) ∧ va_S (mj_A Ω) s.heap H locs
section MJS
variable {p : Program} {l : Launch} {e : Env} {R : Room} {s : State} {m : MethodId} {args : Array Value} {below : List Frame} {meth : Method} {c : Code} {cells slots : Nat} {Q : State → Prop}
variable {Ω : mj_Om} {al : Bool} {o : Nat} {ini : Bool} {cc : ByteArray} {nL pc : Nat} {ret : Option FieldType} {L : List (Option Value)} {st : List Value} {M : mj_M} {H : Heap} {locs : List Loc} {ls : Array Slot}
/-- the goal at a place of the small machine -/
def mj_Wg (Ω : mj_Om) (al : Bool) (nL : Nat) (p : Program) (l : Launch) (e : Env) (R : Room) (s : State) (m : MethodId) (args : Array Value) (below : List Frame) (meth : Method) (c : Code) (cells slots : Nat) (Q : State → Prop) (pc : Nat) (S : mj_S) : Prop :=
  ∀ (H : Heap) (locs : List Loc) (ls : Array Slot), mj_H Ω al S.2.2 s H locs → mj_has Ω ls nL S.1 → W p l e R s m args below meth c H locs cells slots Q (F0 m pc ls (S.2.1.map (mj_v Ω)))
theorem mj_at {k : Nat} {v : Value} (hl : mj_has Ω ls nL L) (h : mj_ld L k = some v) : ls[k]? = some (.val (mj_v Ω v)) := by
  refine hl.2.2 k v ?_
  unfold mj_ld at h
  rw [List.getD_eq_getElem?_getD] at h
  cases he : L[k]? with
  | none => rw [he] at h; cases h
  | some z => rw [he] at h; simp at h; rw [h]
theorem mj_put1_ok {k : Nat} {v : Value} {K : List (Option Value) → Prop} (h : mj_put1 nL k L v K) : mj_ok1 L k = true ∧ k < nL ∧ K (L.set k (some v)) := by
  unfold mj_put1 at h
  cases hb : (mj_ok1 L k && decide (k < nL)) with
  | false => rw [hb] at h; exact h.elim
  | true =>
    rw [hb] at h
    simp only [Bool.and_eq_true, decide_eq_true_eq] at hb
    exact ⟨hb.1, hb.2, h⟩
theorem mj_ui_ne {I : Nat → Nat → Int32} {c k a : Nat} {x : Int32} (h : a ≠ c) : mj_ui I c k x a = I a := by
  funext b
  simp [mj_ui, h]
theorem mj_ui_self {I : Nat → Nat → Int32} {c k : Nat} {x : Int32} : mj_ui I c k x c = upd (I c) k x := by
  funext b
  simp [mj_ui, upd]
theorem mj_ul_ne {I : Nat → Nat → Int64} {c k a : Nat} {x : Int64} (h : a ≠ c) : mj_ul I c k x a = I a := by
  funext b
  simp [mj_ul, h]
theorem mj_ul_self {I : Nat → Nat → Int64} {c k : Nat} {x : Int64} : mj_ul I c k x c = vp_updL (I c) k x := by
  funext b
  simp [mj_ul, vp_updL]
theorem mj_fs_cong {M M' : mj_M} {a ci : Nat} (hI : M'.2.2.1 a = M.2.2.1 a) (hJ : M'.2.2.2 a = M.2.2.2 a) (hR : ∀ k, mj_rf M' a k = mj_rf M a k) : mj_fs Ω M' a ci = mj_fs Ω M a ci := by
  unfold mj_fs
  congr 1
  funext k kd
  unfold mj_fv
  rw [hI, hJ, hR]
theorem mj_cell_cong {M M' : mj_M} {a : Nat} {sh : Nat × Nat} (hI : M'.2.2.1 a = M.2.2.1 a) (hJ : M'.2.2.2 a = M.2.2.2 a) (hR : ∀ k, mj_rf M' a k = mj_rf M a k) : mj_cell Ω M' a sh = mj_cell Ω M a sh := by
  obtain ⟨t, n⟩ := sh
  match t with
  | 0 => simp only [mj_cell, hI]
  | 1 => simp only [mj_cell, hI]
  | 2 => simp only [mj_cell, hJ]
  | 3 => simp only [mj_cell, hR]
  | k + 4 => simp only [mj_cell, mj_fs_cong (Ω := Ω) (ci := k) hI hJ hR]
theorem mj_fs_at {M : mj_M} {a ci k : Nat} (hk : k < (mj_kds ci).length) : (mj_fs Ω M a ci)[k]? = some (mj_v Ω (mj_fv M a ((mj_kds ci).getD k 0) k)) := by
  simp [mj_fs, List.getElem?_mapIdx, hk]
theorem mj_fs_set {M M' : mj_M} {a ci k : Nat} {v : Value} (hk : k < (mj_kds ci).length) (h1 : mj_v Ω (mj_fv M' a ((mj_kds ci).getD k 0) k) = v) (h2 : ∀ j kd, j ≠ k → mj_fv M' a kd j = mj_fv M a kd j) : (mj_fs Ω M a ci).set k v = mj_fs Ω M' a ci := by
  apply List.ext_getElem?
  intro i
  by_cases hi : i = k
  · subst hi
    rw [List.getElem?_set_self (by simpa [mj_fs] using hk), mj_fs_at hk, h1]
  · rw [List.getElem?_set_ne (Ne.symm hi)]
    simp only [mj_fs, List.getElem?_mapIdx]
    cases (mj_kds ci)[i]? with
    | none => rfl
    | some kd =>
      simp only [Option.map_some]
      rw [h2 i kd hi]
theorem mj_get_ok (F : mj_F Ω p s m args meth c o ini cc nL ret) {idx : Nat} {S : mj_S} {K : mj_S → Prop} (hdg : decode cc pc = .ok (.getfield idx, 3)) (h : mj_get o idx S K) (hk : ∀ S', K S' → mj_Wg Ω al nL p l e R s m args below meth c cells slots Q (pc + 3) S') : mj_Wg Ω al nL p l e R s m args below meth c cells slots Q pc S := by
  obtain ⟨L, st, M⟩ := S
  intro H locs ls hH hl
  obtain ⟨hx, hb, hml, hown, hts, hr, hlk, hK, hin, hbs, hKc⟩ := F
  simp only [mj_get] at h
  split at h
  · rename_i a st' ci k hfl
    split at h
    · rename_i hd
      have hsh := of_decide_eq_true hd
      obtain ⟨q, hq, hkq, hlink⟩ := mj_flP hfl
      have hC := mj_cls hq
      have he := mj_w_at (Ω := Ω) hsh
      exact va_get (D := Ω.1) (ci := ci) (C := q.1) (T := q.2.1) (N := q.2.2) (Ts := mj_GW) hx hb hts hC.1 hown hK hH.1 a he hq k hkq (hts _ hlink) (fun _ h => h) (mj_fs_at (by rw [hC.2.1]; exact hkq)) hdg (hk _ h H locs ls hH hl)
    · exact h.elim
  · rename_i a st' hfl
    split at h
    · rename_i v hsf
      simp only [mj_sf] at hsf
      split at hsf
      · rename_i hd
        obtain ⟨ho, h1, h2⟩ := of_decide_eq_true hd
        obtain ⟨i, rfl⟩ : ∃ i : Nat, a = 1010 + i := ⟨a - 1010, (Nat.add_sub_cancel' h1).symm⟩
        have hi : i < mj_kS.length := Nat.lt_of_add_lt_add_left (n := 1010) h2
        have hq := hKc.2.1.2.2 i _ (List.getElem?_eq_getElem hi)
        have hown' : s.vm.findClass RJ0 = some m.cls := by rw [← hown, ho]; rfl
        have hqa : mj_q Ω (1010 + i) = Ω.2.2.2 (1010 + i) := by simp [mj_q]; omega
        split at hsf
        · cases hsf
          have k9 := hk _ h H locs ls hH hl
          have e9 : mj_v Ω (.ref (1010 + i + 10)) = .ref (Ω.2.2.2 (1020 + i)) := by
            simp only [mj_v, mj_q]
            rw [if_neg (by omega), Nat.add_right_comm 1010 i 10]
          rw [List.map_cons, e9] at k9
          have := vk_getf (v := .ref (Ω.2.2.2 (1020 + i))) hx hb hq.2.2.1 hH.2.2 hown' (hts _ mj_gsV) (fun _ h => h) hdg k9
          rw [← hqa] at this
          exact this
        · cases hsf
          have := vk_getf (v := .int 0) hx hb hq.2.1 hH.2.2 hown' (hts _ mj_gsD) (fun _ h => h) hdg (hk _ h H locs ls hH hl)
          rw [← hqa] at this
          exact this
        · cases hsf
      · cases hsf
    · exact h.elim
  · exact h.elim
/-- static fields -/
theorem mj_gst_ok (F : mj_F Ω p s m args meth c o ini cc nL ret) {idx : Nat} {S : mj_S} {K : mj_S → Prop} (hdg : decode cc pc = .ok (.getstatic idx, 3)) (h : mj_gst o idx S K) (hk : ∀ S', K S' → mj_Wg Ω al nL p l e R s m args below meth c cells slots Q (pc + 3) S') : mj_Wg Ω al nL p l e R s m args below meth c cells slots Q pc S := by
  obtain ⟨L, st, M⟩ := S
  intro H locs ls hH hl
  obtain ⟨hx, hb, hml, hown, hts, hr, hlk, hK, hin, hbs, hKc⟩ := F
  simp only [mj_gst] at h
  split at h
  · rename_i v hv
    unfold mj_gs at hv
    split at hv
    · obtain ⟨cc9, hc9, rfl⟩ := Option.map_eq_some_iff.mp hv
      have hm := mj_lookup_mem hc9
      obtain ⟨k, hk6, hkq, hc⟩ : ∃ k, k < 6 ∧ (mj_kI[k]?).map (fun q => q.2.1) = some idx ∧ cc9 = 1000 + k := by
        simp only [List.mem_cons, Prod.mk.injEq, List.not_mem_nil, or_false] at hm
        rcases hm with ⟨rfl, rfl⟩ | ⟨rfl, rfl⟩ | ⟨rfl, rfl⟩ | ⟨rfl, rfl⟩ | ⟨rfl, rfl⟩ | ⟨rfl, rfl⟩
        · exact ⟨0, by decide, by decide, rfl⟩
        · exact ⟨1, by decide, by decide, rfl⟩
        · exact ⟨2, by decide, by decide, rfl⟩
        · exact ⟨3, by decide, by decide, rfl⟩
        · exact ⟨4, by decide, by decide, rfl⟩
        · exact ⟨5, by decide, by decide, rfl⟩
      subst hc
      have hlen : k < mj_kI.length := hk6
      have hq := hKc.2.1.1 k _ (List.getElem?_eq_getElem hlen)
      have hid : (mj_kI[k]).2.1 = idx := by
        rw [List.getElem?_eq_getElem hlen] at hkq
        exact Option.some.inj hkq
      have hT := List.all_eq_true.mp mj_gsT k (List.mem_range.mpr hk6)
      rw [List.getElem?_eq_getElem hlen] at hT
      have hlink := hts _ (mj_gw_in hT)
      rw [hid] at hlink
      have k9 := hk _ h H locs ls hH hl
      have e9 : mj_v Ω (.ref (1000 + k)) = .ref (Ω.2.2.2 (1000 + k)) := by
        simp only [mj_v, mj_q]
        rw [if_neg (by omega)]
      rw [List.map_cons, e9] at k9
      exact va_gets hx hb hq.1 hH.2.2 hown hlink (fun _ h => h) hdg k9
    · split at hv
      · rename_i hi
        cases hv
        subst hi
        exact va_gets (v := .int 1) hx hb hKc.2.1.2.1.1 hH.2.2 hown (hts _ mj_gsC) (fun _ h => h) hdg (hk _ h H locs ls hH hl)
      · cases hv
    · cases hv
  · exact h.elim
/-- reading a constant array -/
theorem mj_kc_T (hKc : mj_Kc Ω s) {c0 : Nat} {kd : Nat} {xs : List Int32} (h : mj_kc c0 = some (kd, xs)) : mj_q Ω c0 = Ω.2.2.2 c0 ∧ ((kd = 0 ∧ va_T .int (Ω.2.2.2 c0) xs.length (fun j => .int (xs.getD j 0)) (mj_A Ω) s s.heap) ∨ (kd = 1 ∧ va_T .byte (Ω.2.2.2 c0) xs.length (fun j => .int (xs.getD j 0)) (mj_A Ω) s s.heap)) := by
  unfold mj_kc at h
  split at h
  · cases h
  · rename_i h1
    refine ⟨by simp [mj_q, h1], ?_⟩
    split at h
    · rename_i h2
      obtain ⟨q, hq, e⟩ := Option.map_eq_some_iff.mp h
      cases e
      refine Or.inl ⟨rfl, ?_⟩
      have := (hKc.2.1.1 _ q hq).2
      rw [show 1000 + (c0 - 1000) = c0 by omega] at this
      exact this
    · split at h
      · cases h
      · rename_i h2 h3
        obtain ⟨q, hq, e⟩ := Option.map_eq_some_iff.mp h
        cases e
        refine Or.inr ⟨rfl, ?_⟩
        have := (hKc.2.1.2.2 _ q hq).2.2.2
        rw [show 1020 + (c0 - 1020) = c0 by omega] at this
        exact this
end MJS
end
section
section MJT
variable {p : Program} {l : Launch} {e : Env} {R : Room} {s : State} {m : MethodId} {args : Array Value} {below : List Frame} {meth : Method} {c : Code} {cells slots : Nat} {Q : State → Prop}
variable {Ω : mj_Om} {al : Bool} {o : Nat} {ini : Bool} {cc : ByteArray} {nL pc : Nat} {ret : Option FieldType} {L : List (Option Value)} {st : List Value} {M : mj_M} {H : Heap} {locs : List Loc} {ls : Array Slot}
theorem mj_kd9 {ci k d : Nat} (h : (mj_kds ci).getD k 9 = d) (hk : k < (mj_kds ci).length) : (mj_kds ci).getD k 0 = d := by
  rw [List.getD_eq_getElem?_getD, List.getElem?_eq_getElem hk] at *
  exact h
/-- a field is written: the world behind it -/
theorem mj_put_gen (F : mj_F Ω p s m args meth c o ini cc nL ret) {idx a ci k : Nat} {v : Value} {rest : List Value} {M M' : mj_M} (hdg : decode cc pc = .ok (.putfield idx, 3)) (hH : mj_H Ω al M s H locs) (hfl : mj_fl o idx = some (ci, k)) (hsh : mj_sh M a = some (ci + 4, 0))
    (hfin : (mj_kds ci).getD k 9 ≠ 3) (hval : ∀ ty, mj_ftOk ((mj_kds ci).getD k 9) (some ty) = true → narrow ty v = v ∧ fits ty v = true) (h1 : M'.1 = M.1) (h2 : ∀ b s, b ≠ a → M.1[b]? = some s → mj_cell Ω M' b s = mj_cell Ω M b s) (h3 : k < (mj_kds ci).length → (mj_fs Ω M a ci).set k v = mj_fs Ω M' a ci)
    (kk : ∀ (H : Heap) (locs : List Loc), mj_H Ω al M' s H locs → W p l e R s m args below meth c H locs cells slots Q (F0 m (pc + 3) ls rest)) : W p l e R s m args below meth c H locs cells slots Q (F0 m pc ls (v :: .ref (mj_q Ω a) :: rest)) := by
  obtain ⟨hx, hb, hml, hown, hts, hr, hlk, hK, -⟩ := F
  obtain ⟨q, hq, hkq, hlink⟩ := mj_flP hfl
  have hC := mj_cls hq
  have he := mj_w_at (Ω := Ω) hsh
  have hkl : k < (mj_kds ci).length := by rw [hC.2.1]; exact hkq
  have hty : ∀ j, j < q.2.2 → parseFieldDescriptor (q.2.1 j).2.2.1 = some ((parseFieldDescriptor (q.2.1 j).2.2.1).getD .int) := by
    intro j hj
    have h4 := (hC.2.2.1 j hj).1
    cases hp : parseFieldDescriptor (q.2.1 j).2.2.1 with
    | some ty => rfl
    | none =>
      rw [hp] at h4
      simp only [mj_ftOk] at h4
      split at h4 <;> first | (rename_i hz; cases hz; done) | cases h4
  have h4 := (hC.2.2.1 k hkq).1
  rw [hty k hkq] at h4
  obtain ⟨v1, v2⟩ := hval _ h4
  obtain ⟨r, g1, cell, g2, g3, g4, g5⟩ := hH.1 a _ he
  cases g1.symm.trans hq
  obtain ⟨hSl, hfc, kC, hkC, hkind⟩ := hK.1 ci _ hq
  obtain ⟨cf, kf, fi, f, hi, hsl⟩ := hSl k hkq
  have hlay := hts _ (hC.1 _ (u_in_lay hkq))
  have hnf : (q.2.1 k).2.2.2 = false := by rw [(hC.2.2.1 k hkq).2.1]; exact decide_eq_false hfin
  unfold u_lay at hlay
  rw [if_neg (by rw [hnf]; decide)] at hlay
  have hap := va_apart (own := mj_own.getD o "") (Ts := mj_GW) hts hC.1 _ hty hC.2.2.2 hK hq
  have hst := (u_facts hfc hkC (u_lays hts hC.1 hkq) hi).1
  refine W.putK hx hb (f := f) ⟨hown, hts _ hlink, ⟨_, _, _, hi⟩, hst⟩ (by rw [g3]; exact u_store hfc hkC hkind hlay hi (hty k hkq) v1 v2) g2 g4 (by rw [hsl]; exact k2_hasslot (g5 k hkq)) rfl rfl hdg fun H' e1 e2 e3 => ?_
  rw [hsl] at e1 ⊢
  have hP := hH.1.set mj_D he (e := .inr (ci, (mj_fs Ω M a ci).set k v)) ⟨_, hq, t_OB.to (V := updV (vp_V (mj_fs Ω M a ci)) k v) ⟨_, e1, g3, g4, t_set g5 hap hkq v⟩ (fun j _ => vp_updV_set (by simpa [mj_fs] using hkl) v j)⟩ e3
  rw [h3 hkl] at hP
  have hw := mj_w_set (Ω := Ω) hsh h1 h2
  have hP : va_P Ω.1 vwCl ((mj_w Ω M).set a (mj_q Ω a, mj_cell Ω M' a (ci + 4, 0))) H' := hP
  rw [hw] at hP
  exact kk H' _ ⟨hP, fun h => by rw [e2, h1]; exact hH.2.1 h, hH.2.2.put e2 e3 (mj_D.2 a _ he)⟩
/-- a final field in its own constructor -/
theorem mj_putF_gen (F : mj_F Ω p s m args meth c o ini cc nL ret) {idx a ci k x : Nat} {rest : List Value} {M M' : mj_M} (hdg : decode cc pc = .ok (.putfield idx, 3)) (hH : mj_H Ω al M s H locs) (hfl : mj_fl o idx = some (ci, k)) (hsh : mj_sh M a = some (ci + 4, 0))
    (hfin : (mj_kds ci).getD k 9 = 3) (hini : ini = true) (hco : ci = o) (h1 : M'.1 = M.1) (h2 : ∀ b s, b ≠ a → M.1[b]? = some s → mj_cell Ω M' b s = mj_cell Ω M b s) (h3 : k < (mj_kds ci).length → (mj_fs Ω M a ci).set k (.ref (mj_q Ω x)) = mj_fs Ω M' a ci)
    (kk : ∀ (H : Heap) (locs : List Loc), mj_H Ω al M' s H locs → W p l e R s m args below meth c H locs cells slots Q (F0 m (pc + 3) ls rest)) : W p l e R s m args below meth c H locs cells slots Q (F0 m pc ls (.ref (mj_q Ω x) :: .ref (mj_q Ω a) :: rest)) := by
  obtain ⟨hx, hb, hml, hown, hts, hr, hlk, hK, hin, -⟩ := F
  obtain ⟨q, hq, hkq, hlink⟩ := mj_flP hfl
  have hC := mj_cls hq
  have he := mj_w_at (Ω := Ω) hsh
  have hkl : k < (mj_kds ci).length := by rw [hC.2.1]; exact hkq
  have hty : ∀ j, j < q.2.2 → parseFieldDescriptor (q.2.1 j).2.2.1 = some ((parseFieldDescriptor (q.2.1 j).2.2.1).getD .int) := by
    intro j hj
    have h4 := (hC.2.2.1 j hj).1
    cases hp : parseFieldDescriptor (q.2.1 j).2.2.1 with
    | some ty => rfl
    | none =>
      rw [hp] at h4
      simp only [mj_ftOk] at h4
      split at h4 <;> first | (rename_i hz; cases hz; done) | cases h4
  have h4 := (hC.2.2.1 k hkq).1
  rw [hty k hkq, hfin] at h4
  obtain ⟨v1, v2⟩ : narrow ((parseFieldDescriptor (q.2.1 k).2.2.1).getD .int) (.ref (mj_q Ω x)) = .ref (mj_q Ω x) ∧ fits ((parseFieldDescriptor (q.2.1 k).2.2.1).getD .int) (.ref (mj_q Ω x)) = true := by
    revert h4
    generalize (parseFieldDescriptor (q.2.1 k).2.2.1).getD .int = ty
    intro h4
    cases ty <;> first | exact ⟨rfl, rfl⟩ | (simp [mj_ftOk] at h4; done)
  obtain ⟨r, g1, cell, g2, g3, g4, g5⟩ := hH.1 a _ he
  cases g1.symm.trans hq
  obtain ⟨hSl, hfc, kC, hkC, hkind⟩ := hK.1 ci _ hq
  obtain ⟨cf, kf, fi, f, hi, hsl⟩ := hSl k hkq
  have hlay := hts _ (hC.1 _ (u_in_lay hkq))
  have hnf : (q.2.1 k).2.2.2 = true := by rw [(hC.2.2.1 k hkq).2.1]; exact decide_eq_true hfin
  unfold u_lay at hlay
  rw [if_pos hnf] at hlay
  have hap := va_apart (own := mj_own.getD o "") (Ts := mj_GW) hts hC.1 _ hty hC.2.2.2 hK hq
  have hst := (u_facts hfc hkC (u_lays hts hC.1 hkq) hi).1
  have hq1 : q.1 = mj_own.getD o "" := by
    subst hco
    have hlt : ci < 13 := (List.getElem?_eq_some_iff.mp hq).1
    have h13 : ∀ ci, ci < 13 → (vwCl[ci]?).map (fun q => q.1) = some (mj_own.getD ci "") := by decide
    have := h13 ci hlt
    rw [hq] at this
    exact Option.some.inj this
  have hcf : m.cls = cf := by
    obtain ⟨_, _, c', _, _, _, -, -, hf', -, -, -, hown2, -⟩ := Cond.laysFinal_spec hlay
    have e1 : c' = cf := by have := hi.symm.trans hf'; simp at this; exact this.1.symm
    rw [(hC.2.2.1 k hkq).2.2, hq1] at hown2
    rw [← e1]; exact Option.some.inj (hown.symm.trans hown2)
  refine W.putFinK hx hb hown (hts _ hlink) hi hst hcf (hin hini) (by rw [g3]; exact u_fits hfc hkC hkind (Or.inr hlay) hi (hty k hkq) v1 v2) g2 g4 (by rw [hsl]; exact k2_hasslot (g5 k hkq)) rfl rfl hdg fun H' e1 e2 e3 => ?_
  rw [hsl] at e1 ⊢
  have hP := hH.1.set mj_D he (e := .inr (ci, (mj_fs Ω M a ci).set k (.ref (mj_q Ω x)))) ⟨_, hq, t_OB.to (V := updV (vp_V (mj_fs Ω M a ci)) k (.ref (mj_q Ω x))) ⟨_, e1, g3, g4, t_set g5 hap hkq _⟩ (fun j _ => vp_updV_set (by simpa [mj_fs] using hkl) _ j)⟩ e3
  rw [h3 hkl] at hP
  have hw := mj_w_set (Ω := Ω) hsh h1 h2
  have hP : va_P Ω.1 vwCl ((mj_w Ω M).set a (mj_q Ω a, mj_cell Ω M' a (ci + 4, 0))) H' := hP
  rw [hw] at hP
  exact kk H' _ ⟨hP, fun h => by rw [e2, h1]; exact hH.2.1 h, hH.2.2.put e2 e3 (mj_D.2 a _ he)⟩
end MJT
end
section
section MJU
variable {p : Program} {l : Launch} {e : Env} {R : Room} {s : State} {m : MethodId} {args : Array Value} {below : List Frame} {meth : Method} {c : Code} {cells slots : Nat} {Q : State → Prop}
variable {Ω : mj_Om} {al : Bool} {o : Nat} {ini : Bool} {cc : ByteArray} {nL pc : Nat} {ret : Option FieldType} {L : List (Option Value)} {st : List Value} {M : mj_M} {H : Heap} {locs : List Loc} {ls : Array Slot}
theorem mj_put_ok (F : mj_F Ω p s m args meth c o ini cc nL ret) {idx : Nat} {S : mj_S} {K : mj_S → Prop} (hdg : decode cc pc = .ok (.putfield idx, 3)) (h : mj_put o idx ini S K) (hk : ∀ S', K S' → mj_Wg Ω al nL p l e R s m args below meth c cells slots Q (pc + 3) S') : mj_Wg Ω al nL p l e R s m args below meth c cells slots Q pc S := by
  obtain ⟨L, st, M⟩ := S
  intro H locs ls hH hl
  simp only [mj_put] at h
  split at h
  · rename_i x a st' ci k hfl
    split at h
    · rename_i hd
      obtain ⟨hsh, hkd, hini, hco⟩ := of_decide_eq_true hd
      refine mj_putF_gen (M := M) (M' := (M.1, ((a, k), x) :: M.2.1, M.2.2)) F hdg hH hfl hsh hkd hini hco rfl (fun b s hb _ => mj_cell_cong rfl rfl (fun j => ?_)) (fun hkl => mj_fs_set hkl ?_ (fun j kd hj => ?_)) (fun H locs hH => hk _ h H locs ls hH hl)
      · have : ((b, j) == (a, k)) = false := by simp [hb]
        simp only [mj_rf, List.lookup_cons, this]
      · rw [mj_kd9 hkd hkl]
        simp [mj_fv, mj_rf, mj_rv, mj_v]
      · unfold mj_fv
        have : ((a, j) == (a, k)) = false := by simp [hj]
        simp only [mj_rf, List.lookup_cons, this]
    · exact h.elim
  · rename_i x a st' ci k hfl
    split at h
    · rename_i hd hkd
      have hsh := of_decide_eq_true hd
      refine mj_put_gen (M := M) (M' := (M.1, M.2.1, mj_ui M.2.2.1 a k x, M.2.2.2)) (v := .int x) F hdg hH hfl hsh (by rw [hkd]; decide) (fun ty hty => ?_) rfl (fun b s hb _ => mj_cell_cong (mj_ui_ne hb) rfl (fun j => rfl)) (fun hkl => mj_fs_set hkl ?_ (fun j kd hj => ?_)) (fun H locs hH => hk _ h H locs ls hH hl)
      · rw [hkd] at hty
        cases ty <;> first | exact ⟨rfl, rfl⟩ | (simp [mj_ftOk] at hty; done)
      · rw [mj_kd9 hkd hkl]
        simp [mj_fv, mj_v, mj_ui]
      · unfold mj_fv
        simp [mj_ui, hj, mj_rf]
    · rename_i hd hkd
      obtain ⟨h01, h⟩ := mj_gd1 h
      have hsh := of_decide_eq_true hd
      refine mj_put_gen (M := M) (M' := (M.1, M.2.1, mj_ui M.2.2.1 a k x, M.2.2.2)) (v := .int x) F hdg hH hfl hsh (by rw [hkd]; decide) (fun ty hty => ?_) rfl (fun b s hb _ => mj_cell_cong (mj_ui_ne hb) rfl (fun j => rfl)) (fun hkl => mj_fs_set hkl ?_ (fun j kd hj => ?_)) (fun H locs hH => hk _ h H locs ls hH hl)
      · rw [hkd] at hty
        cases ty <;> first | (rcases h01 with rfl | rfl <;> exact ⟨by decide, by decide⟩) | (simp [mj_ftOk] at hty; done)
      · rw [mj_kd9 hkd hkl]
        simp [mj_fv, mj_v, mj_ui]
      · unfold mj_fv
        simp [mj_ui, hj, mj_rf]
    · exact h.elim
  · rename_i x a st' ci k hfl
    split at h
    · rename_i hd hkd
      have hsh := of_decide_eq_true hd
      refine mj_put_gen (M := M) (M' := (M.1, M.2.1, M.2.2.1, mj_ul M.2.2.2 a k x)) (v := .long x) F hdg hH hfl hsh (by rw [hkd]; decide) (fun ty hty => ?_) rfl (fun b s hb _ => mj_cell_cong rfl (mj_ul_ne hb) (fun j => rfl)) (fun hkl => mj_fs_set hkl ?_ (fun j kd hj => ?_)) (fun H locs hH => hk _ h H locs ls hH hl)
      · rw [hkd] at hty
        cases ty <;> first | exact ⟨rfl, rfl⟩ | (simp [mj_ftOk] at hty; done)
      · rw [mj_kd9 hkd hkl]
        simp [mj_fv, mj_v, mj_ul]
      · unfold mj_fv
        simp [mj_ul, hj, mj_rf]
    · exact h.elim
  · exact h.elim
/-- an int is stored in an array -/
theorem mj_ias_ok (F : mj_F Ω p s m args meth c o ini cc nL ret) {S : mj_S} {K : mj_S → Prop} (hdg : decode cc pc = .ok (.iastore, 1)) (h : mj_ias S K) (hk : ∀ S', K S' → mj_Wg Ω al nL p l e R s m args below meth c cells slots Q (pc + 1) S') : mj_Wg Ω al nL p l e R s m args below meth c cells slots Q pc S := by
  obtain ⟨L, st, M⟩ := S
  intro H locs ls hH hl
  obtain ⟨hx, hb, hml, hown, hts, hr, hlk, hK, -⟩ := F
  simp only [mj_ias] at h
  split at h
  · rename_i x i a st'
    split at h
    · rename_i n hsh
      obtain ⟨hin, h⟩ := mj_gdI h
      have he := mj_w_at (Ω := Ω) hsh
      refine W.iast hx hb (hH.1 a _ he) ((hK.2 0 _ rfl).1 n (fun j => .int (M.2.2.1 a j))) (fun q => by cases q) (by show ¬ (i < 0 ∨ (arrV _ _ _).slots.size ≤ _); rw [arrV_size]; exact hin) rfl rfl hdg fun H1 e1 e2 e3 => ?_
      have hw := mj_w_set (Ω := Ω) (M' := (M.1, M.2.1, mj_ui M.2.2.1 a i.toNatClampNeg x, M.2.2.2)) hsh rfl (fun b s hb _ => mj_cell_cong (mj_ui_ne hb) rfl (fun j => rfl))
      have hP := hH.1.set mj_D he (e := mj_cell Ω (M.1, M.2.1, mj_ui M.2.2.1 a i.toNatClampNeg x, M.2.2.2) a (0, n)) (by
        show H1[mj_q Ω a]? = some (vp_cell _ _)
        rw [e1]
        show some ((vp_cell (Ω.2.1 0) (n, .inl (M.2.2.1 a))).setSlot _ _) = some (vp_cell (Ω.2.1 0) (n, .inl (mj_ui M.2.2.1 a i.toNatClampNeg x a)))
        rw [mj_ui_self, vp_cell_i, vp_cell_i, arrV_store]
        congr 2
        funext z
        by_cases hz : z = i.toNatClampNeg
        · subst hz
          simp [updV, upd]
        · simp [updV, upd, hz]) e3
      rw [hw] at hP
      exact hk _ h H1 _ ls ⟨hP, fun h => by rw [e2]; exact hH.2.1 h, hH.2.2.put e2 e3 (mj_D.2 a _ he)⟩ hl
    · exact h.elim
  · exact h.elim
theorem mj_bas_ok (F : mj_F Ω p s m args meth c o ini cc nL ret) {S : mj_S} {K : mj_S → Prop} (hdg : decode cc pc = .ok (.bastore, 1)) (h : mj_bas S K) (hk : ∀ S', K S' → mj_Wg Ω al nL p l e R s m args below meth c cells slots Q (pc + 1) S') : mj_Wg Ω al nL p l e R s m args below meth c cells slots Q pc S := by
  obtain ⟨L, st, M⟩ := S
  intro H locs ls hH hl
  obtain ⟨hx, hb, hml, hown, hts, hr, hlk, hK, -⟩ := F
  simp only [mj_bas] at h
  split at h
  · rename_i x i a st'
    split at h
    · rename_i n hsh
      obtain ⟨hin, h⟩ := mj_gdI h
      have he := mj_w_at (Ω := Ω) hsh
      refine W.zast hx hb (hH.1 a _ he) ((hK.2 1 _ rfl).1 n (fun j => .int (M.2.2.1 a j))) (fun q => by cases q) (by show ¬ (i < 0 ∨ (arrV _ _ _).slots.size ≤ _); rw [arrV_size]; exact hin) rfl rfl hdg fun H1 e1 e2 e3 => ?_
      have hw := mj_w_set (Ω := Ω) (M' := (M.1, M.2.1, mj_ui M.2.2.1 a i.toNatClampNeg (vp_nar .boolean x), M.2.2.2)) hsh rfl (fun b s hb _ => mj_cell_cong (mj_ui_ne hb) rfl (fun j => rfl))
      have hP := hH.1.set mj_D he (e := mj_cell Ω (M.1, M.2.1, mj_ui M.2.2.1 a i.toNatClampNeg (vp_nar .boolean x), M.2.2.2) a (1, n)) (by
        show H1[mj_q Ω a]? = some (vp_cell _ _)
        rw [e1]
        show some ((vp_cell (Ω.2.1 1) (n, .inl (M.2.2.1 a))).setSlot _ _) = some (vp_cell (Ω.2.1 1) (n, .inl (mj_ui M.2.2.1 a i.toNatClampNeg (vp_nar .boolean x) a)))
        rw [mj_ui_self, vp_cell_i, vp_cell_i, arrV_store]
        congr 2
        funext z
        by_cases hz : z = i.toNatClampNeg
        · subst hz
          simp [updV, upd]
          rfl
        · simp [updV, upd, hz]) e3
      rw [hw] at hP
      exact hk _ h H1 _ ls ⟨hP, fun h => by rw [e2]; exact hH.2.1 h, hH.2.2.put e2 e3 (mj_D.2 a _ he)⟩ hl
    · exact h.elim
  · exact h.elim
theorem mj_las_ok (F : mj_F Ω p s m args meth c o ini cc nL ret) {S : mj_S} {K : mj_S → Prop} (hdg : decode cc pc = .ok (.lastore, 1)) (h : mj_las S K) (hk : ∀ S', K S' → mj_Wg Ω al nL p l e R s m args below meth c cells slots Q (pc + 1) S') : mj_Wg Ω al nL p l e R s m args below meth c cells slots Q pc S := by
  obtain ⟨L, st, M⟩ := S
  intro H locs ls hH hl
  obtain ⟨hx, hb, hml, hown, hts, hr, hlk, hK, -⟩ := F
  simp only [mj_las] at h
  split at h
  · rename_i x i a st'
    split at h
    · rename_i n hsh
      obtain ⟨hin, h⟩ := mj_gdI h
      have he := mj_w_at (Ω := Ω) hsh
      refine W.last hx hb (hH.1 a _ he) ((hK.2 2 _ rfl).1 n (fun j => .long (M.2.2.2 a j))) (fun q => by cases q) (by show ¬ (i < 0 ∨ (arrV _ _ _).slots.size ≤ _); rw [arrV_size]; exact hin) rfl rfl hdg fun H1 e1 e2 e3 => ?_
      have hw := mj_w_set (Ω := Ω) (M' := (M.1, M.2.1, M.2.2.1, mj_ul M.2.2.2 a i.toNatClampNeg x)) hsh rfl (fun b s hb _ => mj_cell_cong rfl (mj_ul_ne hb) (fun j => rfl))
      have hP := hH.1.set mj_D he (e := mj_cell Ω (M.1, M.2.1, M.2.2.1, mj_ul M.2.2.2 a i.toNatClampNeg x) a (2, n)) (by
        show H1[mj_q Ω a]? = some (vp_cell _ _)
        rw [e1]
        show some ((vp_cell (Ω.2.1 2) (n, .inr (.inl (M.2.2.2 a)))).setSlot _ _) = some (vp_cell (Ω.2.1 2) (n, .inr (.inl (mj_ul M.2.2.2 a i.toNatClampNeg x a))))
        rw [mj_ul_self, vp_cell_l, vp_cell_l, arrV_store]
        congr 2
        funext z
        by_cases hz : z = i.toNatClampNeg
        · subst hz
          simp [updV, vp_updL]
        · simp [updV, vp_updL, hz]) e3
      rw [hw] at hP
      exact hk _ h H1 _ ls ⟨hP, fun h => by rw [e2]; exact hH.2.1 h, hH.2.2.put e2 e3 (mj_D.2 a _ he)⟩ hl
    · exact h.elim
  · exact h.elim
end MJU
end
section
section MJV
variable {p : Program} {l : Launch} {e : Env} {R : Room} {s : State} {m : MethodId} {args : Array Value} {below : List Frame} {meth : Method} {c : Code} {cells slots : Nat} {Q : State → Prop}
variable {Ω : mj_Om} {al : Bool} {o : Nat} {ini : Bool} {cc : ByteArray} {nL pc : Nat} {ret : Option FieldType}
theorem mj_aal_ok (F : mj_F Ω p s m args meth c o ini cc nL ret) {S : mj_S} {K : mj_S → Prop} (hdg : decode cc pc = .ok (.aaload, 1)) (h : mj_aal S K) (hk : ∀ S', K S' → mj_Wg Ω al nL p l e R s m args below meth c cells slots Q (pc + 1) S') : mj_Wg Ω al nL p l e R s m args below meth c cells slots Q pc S := by
  obtain ⟨L, st, M⟩ := S
  intro H locs ls hH hl
  obtain ⟨hx, hb, hml, hown, hts, hr, hlk, hK, -⟩ := F
  simp only [mj_aal] at h
  split at h
  · rename_i i a st'
    split at h
    · rename_i n hsh
      obtain ⟨hin, h⟩ := mj_gdI h
      have he := mj_w_at (Ω := Ω) hsh
      have hlt : i.toNatClampNeg < n := Nat.not_le.mp fun q => hin (Or.inr q)
      have hv : mj_v Ω (mj_rv (mj_rf M a i.toNatClampNeg)) = va_rf ((mj_rf M a i.toNatClampNeg).map (mj_q Ω)) := by
        cases mj_rf M a i.toNatClampNeg <;> rfl
      have k := hk _ h H locs ls hH hl
      rw [List.map_cons, hv] at k
      exact W.aald (v := va_rf ((mj_rf M a i.toNatClampNeg).map (mj_q Ω))) (ty := .array .int) hx hb (hH.1 a _ he) ((hK.2 3 _ rfl).1 n (fun j => va_rf ((mj_rf M a j).map (mj_q Ω)))) rfl (fun q => by cases q) (by show ¬ (i < 0 ∨ (arrV _ _ _).slots.size ≤ _); rw [arrV_size]; exact hin) (by show (arrV _ _ _).slots[_]? = _; rw [arrV_read _ _ hlt]) rfl rfl hdg k
    · exact h.elim
  · exact h.elim
set_option maxHeartbeats 4000000 in
theorem mj_stp_ok (F : mj_F Ω p s m args meth c o ini cc nL ret) {i : Instr} {S : mj_S} {K : mj_S → Prop} (hdg : decode cc pc = .ok (i, mj_len i)) (h : mj_stp o ini nL i S K) (hk : ∀ S', K S' → mj_Wg Ω al nL p l e R s m args below meth c cells slots Q (pc + mj_len i) S') : mj_Wg Ω al nL p l e R s m args below meth c cells slots Q pc S := by
  cases i with
  | getfield k => exact mj_get_ok F hdg h hk
  | putfield k => exact mj_put_ok F hdg h hk
  | iastore => exact mj_ias_ok F hdg h hk
  | bastore => exact mj_bas_ok F hdg h hk
  | lastore => exact mj_las_ok F hdg h hk
  | aaload => exact mj_aal_ok F hdg h hk
  | iconst n =>
    intro H locs ls hH hl
    exact lv_iconst F.1 F.2.1 hdg rfl (hk _ h H locs ls hH hl)
  | bipush n =>
    intro H locs ls hH hl
    exact lv_bipush F.1 F.2.1 hdg rfl (hk _ h H locs ls hH hl)
  | sipush n =>
    intro H locs ls hH hl
    exact lv_sipush F.1 F.2.1 hdg rfl (hk _ h H locs ls hH hl)
  | lconst n =>
    intro H locs ls hH hl
    exact lv_lconst F.1 F.2.1 hdg rfl (hk _ h H locs ls hH hl)
  | ldc n =>
    intro H locs ls hH hl
    simp only [mj_stp, mj_ldcS] at h
    split at h
    · rename_i x hx
      exact lv_ldc F.1 F.2.1 F.2.2.2.1 (F.2.2.2.2.1 _ (mj_ldP hx)) hdg (hk _ h H locs ls hH hl)
    · split at h
      · rename_i i hi
        have h1 := List.find?_some hi
        have h2 := of_decide_eq_true h1
        obtain ⟨q, hq, e⟩ := Option.map_eq_some_iff.mp h2
        cases e
        have hr := F.2.2.2.2.2.2.2.2.2.2.2.2 i q hq
        have k9 := hk _ h H locs ls hH hl
        have e9 : mj_v Ω (.ref (1010 + i)) = .ref (Ω.2.2.2 (1010 + i)) := by
          simp only [mj_v, mj_q]
          rw [if_neg (by omega)]
        rw [List.map_cons, e9] at k9
        exact va_ldcS F.1 F.2.1 F.2.2.2.1 hr hdg k9
      · exact h.elim
  | ldc_w n =>
    intro H locs ls hH hl
    simp only [mj_stp, mj_ldc] at h
    split at h
    · rename_i x hx
      exact lv_ldcw F.1 F.2.1 F.2.2.2.1 (F.2.2.2.2.1 _ (mj_ldP hx)) hdg (hk _ h H locs ls hH hl)
    · exact h.elim
  | ldc2_w n =>
    intro H locs ls hH hl
    simp only [mj_stp, mj_ldc2] at h
    split at h
    · rename_i x hx
      exact lv_ldc2 F.1 F.2.1 F.2.2.2.1 (F.2.2.2.2.1 _ (mj_l2P hx)) hdg (hk _ h H locs ls hH hl)
    · exact h.elim
  | iload_n n =>
    intro H locs ls hH hl
    simp only [mj_stp, mj_iload] at h
    split at h
    · rename_i x hx
      exact lv_iload_n F.1 F.2.1 hdg rfl (mj_at hl hx) (hk _ h H locs ls hH hl)
    · exact h.elim
  | iload n =>
    intro H locs ls hH hl
    simp only [mj_stp, mj_iload] at h
    split at h
    · rename_i x hx
      exact lv_iload F.1 F.2.1 hdg (mj_at hl hx) (hk _ h H locs ls hH hl)
    · exact h.elim
  | lload_n n =>
    intro H locs ls hH hl
    simp only [mj_stp, mj_lload] at h
    split at h
    · rename_i x hx
      exact lv_lload_n F.1 F.2.1 hdg rfl (mj_at hl hx) (hk _ h H locs ls hH hl)
    · exact h.elim
  | lload n =>
    intro H locs ls hH hl
    simp only [mj_stp, mj_lload] at h
    split at h
    · rename_i x hx
      exact lv_lload F.1 F.2.1 hdg (mj_at hl hx) (hk _ h H locs ls hH hl)
    · exact h.elim
  | aload_n n =>
    intro H locs ls hH hl
    simp only [mj_stp, mj_aload] at h
    split at h
    · rename_i x hx
      exact lv_aload_n F.1 F.2.1 hdg rfl (mj_at hl hx) (hk _ h H locs ls hH hl)
    · exact h.elim
  | aload n =>
    intro H locs ls hH hl
    simp only [mj_stp, mj_aload] at h
    split at h
    · rename_i x hx
      exact lv_aload F.1 F.2.1 hdg (mj_at hl hx) (hk _ h H locs ls hH hl)
    · exact h.elim
  | istore_n n =>
    obtain ⟨L, st, M⟩ := S
    intro H locs ls hH hl
    simp only [mj_stp, mj_istore] at h
    split at h
    · obtain ⟨h1, h2, h⟩ := mj_put1_ok h
      exact lv_istore_n F.1 F.2.1 hdg rfl (mj_l_of hl) h2 rfl (fun ls' hl' => hk _ h H locs ls' hH (mj_st h1 hl'))
    · exact h.elim
  | istore n =>
    obtain ⟨L, st, M⟩ := S
    intro H locs ls hH hl
    simp only [mj_stp, mj_istore] at h
    split at h
    · obtain ⟨h1, h2, h⟩ := mj_put1_ok h
      exact lv_istore F.1 F.2.1 hdg (mj_l_of hl) h2 rfl (fun ls' hl' => hk _ h H locs ls' hH (mj_st h1 hl'))
    · exact h.elim
  | astore_n n =>
    obtain ⟨L, st, M⟩ := S
    intro H locs ls hH hl
    simp only [mj_stp, mj_astore] at h
    split at h
    · obtain ⟨h1, h2, h⟩ := mj_put1_ok h
      exact lv_astore_n F.1 F.2.1 hdg rfl (mj_l_of hl) h2 rfl (fun ls' hl' => hk _ h H locs ls' hH (mj_st h1 hl'))
    · exact h.elim
  | astore n =>
    obtain ⟨L, st, M⟩ := S
    intro H locs ls hH hl
    simp only [mj_stp, mj_astore] at h
    split at h
    · obtain ⟨h1, h2, h⟩ := mj_put1_ok h
      exact lv_astore F.1 F.2.1 hdg (mj_l_of hl) h2 rfl (fun ls' hl' => hk _ h H locs ls' hH (mj_st h1 hl'))
    · exact h.elim
  | iinc n z =>
    obtain ⟨L, st, M⟩ := S
    intro H locs ls hH hl
    simp only [mj_stp, mj_iinc] at h
    split at h
    · rename_i x hx
      obtain ⟨h1, h2, h⟩ := mj_put1_ok h
      have hm : (n, mj_v Ω (.int x)) ∈ mj_l Ω L := List.mem_filterMap.mpr ⟨n, List.mem_range.mpr (by
        rcases Nat.lt_or_ge n L.length with q | q
        · exact q
        · unfold mj_ld at hx
          rw [List.getD_eq_getElem?_getD, List.getElem?_eq_none q] at hx
          cases hx), by unfold mj_ld at hx; rw [hx]; rfl⟩
      obtain ⟨k, hkk⟩ := List.getElem?_of_mem hm
      exact lv_iinc F.1 F.2.1 hdg (mj_l_of hl) (k := k) hkk rfl h2 rfl (fun ls' hl' => hk _ h H locs ls' hH (mj_st (v := .int (x + Int32.ofInt z)) h1 hl'))
    · exact h.elim
  | iadd => obtain ⟨L, st, M⟩ := S; intro H locs ls hH hl; simp only [mj_stp, mj_i2] at h; split at h; exact lv_iadd F.1 F.2.1 hdg (hk _ h H locs ls hH hl); exact h.elim
  | isub => obtain ⟨L, st, M⟩ := S; intro H locs ls hH hl; simp only [mj_stp, mj_i2] at h; split at h; exact lv_isub F.1 F.2.1 hdg (hk _ h H locs ls hH hl); exact h.elim
  | imul => obtain ⟨L, st, M⟩ := S; intro H locs ls hH hl; simp only [mj_stp, mj_i2] at h; split at h; exact lv_imul F.1 F.2.1 hdg (hk _ h H locs ls hH hl); exact h.elim
  | iand => obtain ⟨L, st, M⟩ := S; intro H locs ls hH hl; simp only [mj_stp, mj_i2] at h; split at h; exact lv_iand F.1 F.2.1 hdg (hk _ h H locs ls hH hl); exact h.elim
  | ior => obtain ⟨L, st, M⟩ := S; intro H locs ls hH hl; simp only [mj_stp, mj_i2] at h; split at h; exact lv_ior F.1 F.2.1 hdg (hk _ h H locs ls hH hl); exact h.elim
  | ishl => obtain ⟨L, st, M⟩ := S; intro H locs ls hH hl; simp only [mj_stp, mj_i2] at h; split at h; exact lv_ishl F.1 F.2.1 hdg (hk _ h H locs ls hH hl); exact h.elim
  | ishr => obtain ⟨L, st, M⟩ := S; intro H locs ls hH hl; simp only [mj_stp, mj_i2] at h; split at h; exact lv_ishr F.1 F.2.1 hdg (hk _ h H locs ls hH hl); exact h.elim
  | iushr => obtain ⟨L, st, M⟩ := S; intro H locs ls hH hl; simp only [mj_stp, mj_i2] at h; split at h; exact lv_iushr F.1 F.2.1 hdg rfl (hk _ h H locs ls hH hl); exact h.elim
  | idiv => obtain ⟨L, st, M⟩ := S; intro H locs ls hH hl; simp only [mj_stp, mj_i2n] at h; split at h; exact lv_idiv F.1 F.2.1 hdg (mj_gd0 h).1 (hk _ (mj_gd0 h).2 H locs ls hH hl); exact h.elim
  | irem => obtain ⟨L, st, M⟩ := S; intro H locs ls hH hl; simp only [mj_stp, mj_i2n] at h; split at h; exact lv_irem F.1 F.2.1 hdg (mj_gd0 h).1 (hk _ (mj_gd0 h).2 H locs ls hH hl); exact h.elim
  | ineg => obtain ⟨L, st, M⟩ := S; intro H locs ls hH hl; simp only [mj_stp, mj_i1] at h; split at h; exact lv_ineg F.1 F.2.1 hdg (hk _ h H locs ls hH hl); exact h.elim
  | i2b => obtain ⟨L, st, M⟩ := S; intro H locs ls hH hl; simp only [mj_stp, mj_i1] at h; split at h; exact lv_i2b F.1 F.2.1 hdg rfl (hk _ h H locs ls hH hl); exact h.elim
  | i2c => obtain ⟨L, st, M⟩ := S; intro H locs ls hH hl; simp only [mj_stp, mj_i1] at h; split at h; exact lv_i2c F.1 F.2.1 hdg rfl (hk _ h H locs ls hH hl); exact h.elim
  | ladd => obtain ⟨L, st, M⟩ := S; intro H locs ls hH hl; simp only [mj_stp, mj_l2] at h; split at h; exact lv_ladd F.1 F.2.1 hdg (hk _ h H locs ls hH hl); exact h.elim
  | lsub => obtain ⟨L, st, M⟩ := S; intro H locs ls hH hl; simp only [mj_stp, mj_l2] at h; split at h; exact lv_lsub F.1 F.2.1 hdg (hk _ h H locs ls hH hl); exact h.elim
  | lmul => obtain ⟨L, st, M⟩ := S; intro H locs ls hH hl; simp only [mj_stp, mj_l2] at h; split at h; exact lv_lmul F.1 F.2.1 hdg (hk _ h H locs ls hH hl); exact h.elim
  | land => obtain ⟨L, st, M⟩ := S; intro H locs ls hH hl; simp only [mj_stp, mj_l2] at h; split at h; exact lv_land F.1 F.2.1 hdg (hk _ h H locs ls hH hl); exact h.elim
  | lor => obtain ⟨L, st, M⟩ := S; intro H locs ls hH hl; simp only [mj_stp, mj_l2] at h; split at h; exact lv_lor F.1 F.2.1 hdg (hk _ h H locs ls hH hl); exact h.elim
  | ldiv => obtain ⟨L, st, M⟩ := S; intro H locs ls hH hl; simp only [mj_stp, mj_l2n] at h; split at h; exact lv_ldiv F.1 F.2.1 hdg (mj_gdL h).1 (hk _ (mj_gdL h).2 H locs ls hH hl); exact h.elim
  | lrem => obtain ⟨L, st, M⟩ := S; intro H locs ls hH hl; simp only [mj_stp, mj_l2n] at h; split at h; exact lv_lrem F.1 F.2.1 hdg (mj_gdL h).1 (hk _ (mj_gdL h).2 H locs ls hH hl); exact h.elim
  | lshl => obtain ⟨L, st, M⟩ := S; intro H locs ls hH hl; simp only [mj_stp, mj_lsh] at h; split at h; exact lv_lshl F.1 F.2.1 hdg rfl (hk _ h H locs ls hH hl); exact h.elim
  | lushr => obtain ⟨L, st, M⟩ := S; intro H locs ls hH hl; simp only [mj_stp, mj_lsh] at h; split at h; exact lv_lushr F.1 F.2.1 hdg rfl (hk _ h H locs ls hH hl); exact h.elim
  | lcmp => obtain ⟨L, st, M⟩ := S; intro H locs ls hH hl; simp only [mj_stp, mj_lcmp] at h; split at h; exact W.lcmp F.1 F.2.1 hdg (hk _ h H locs ls hH hl); exact h.elim
  | i2l => obtain ⟨L, st, M⟩ := S; intro H locs ls hH hl; simp only [mj_stp, mj_i2l] at h; split at h; exact lv_i2l F.1 F.2.1 hdg rfl (hk _ h H locs ls hH hl); exact h.elim
  | l2i => obtain ⟨L, st, M⟩ := S; intro H locs ls hH hl; simp only [mj_stp, mj_l2i] at h; split at h; exact lv_l2i F.1 F.2.1 hdg rfl (hk _ h H locs ls hH hl); exact h.elim
  | dup => obtain ⟨L, st, M⟩ := S; intro H locs ls hH hl; simp only [mj_stp, mj_dup] at h; split at h; exact lv_dup F.1 F.2.1 hdg rfl (hk _ h H locs ls hH hl); exact lv_dup F.1 F.2.1 hdg rfl (hk _ h H locs ls hH hl); exact h.elim
  | dup2 => obtain ⟨L, st, M⟩ := S; intro H locs ls hH hl; simp only [mj_stp, mj_dup2] at h; split at h; exact lv_dup2_11 F.1 F.2.1 hdg rfl rfl (hk _ h H locs ls hH hl); exact lv_dup2_11 F.1 F.2.1 hdg rfl rfl (hk _ h H locs ls hH hl); exact h.elim
  | pop => obtain ⟨L, st, M⟩ := S; intro H locs ls hH hl; simp only [mj_stp, mj_pop] at h; split at h; exact lv_pop F.1 F.2.1 hdg rfl (hk _ h H locs ls hH hl); exact h.elim
  | iaload =>
    obtain ⟨L, st, M⟩ := S
    intro H locs ls hH hl
    simp only [mj_stp, mj_ial] at h
    split at h
    · split at h
      · rename_i n hsh
        exact va_iald F.1 F.2.1 F.2.2.2.2.2.2.2.1 hH.1 _ 0 (mj_w_at (Ω := Ω) hsh) rfl (mj_gdI h).1 hdg (hk _ (mj_gdI h).2 H locs ls hH hl)
      · split at h
        · rename_i xs hc
          obtain ⟨hqa, hT⟩ := mj_kc_T F.2.2.2.2.2.2.2.2.2.2 hc
          rcases hT with ⟨-, hT⟩ | ⟨hT, -⟩
          · rw [List.map_cons, List.map_cons]
            simp only [mj_v]
            rw [hqa]
            exact va_ti F.1 F.2.1 hT hH.2.2 (mj_gdI h).1 rfl hdg (hk _ (mj_gdI h).2 H locs ls hH hl)
          · cases hT
        · exact h.elim
      · exact h.elim
    · exact h.elim
  | laload =>
    obtain ⟨L, st, M⟩ := S
    intro H locs ls hH hl
    simp only [mj_stp, mj_lal] at h
    split at h
    · split at h
      · rename_i n hsh
        exact va_lald F.1 F.2.1 F.2.2.2.2.2.2.2.1 hH.1 _ 2 (mj_w_at (Ω := Ω) hsh) rfl (mj_gdI h).1 hdg (hk _ (mj_gdI h).2 H locs ls hH hl)
      · exact h.elim
    · exact h.elim
  | baload =>
    obtain ⟨L, st, M⟩ := S
    intro H locs ls hH hl
    simp only [mj_stp, mj_bal] at h
    split at h
    · split at h
      · rename_i n hsh
        exact va_zald F.1 F.2.1 F.2.2.2.2.2.2.2.1 hH.1 _ 1 (mj_w_at (Ω := Ω) hsh) rfl (mj_gdI h).1 hdg (hk _ (mj_gdI h).2 H locs ls hH hl)
      · split at h
        · rename_i xs hc
          obtain ⟨hqa, hT⟩ := mj_kc_T F.2.2.2.2.2.2.2.2.2.2 hc
          rcases hT with ⟨hT, -⟩ | ⟨-, hT⟩
          · cases hT
          · rw [List.map_cons, List.map_cons]
            simp only [mj_v]
            rw [hqa]
            exact va_tb F.1 F.2.1 hT hH.2.2 (mj_gdI h).1 rfl hdg (hk _ (mj_gdI h).2 H locs ls hH hl)
        · exact h.elim
      · exact h.elim
    · exact h.elim
  | arraylength =>
    obtain ⟨L, st, M⟩ := S
    intro H locs ls hH hl
    simp only [mj_stp, mj_alen] at h
    split at h
    · split at h
      · rename_i n hsh
        exact va_alen F.1 F.2.1 F.2.2.2.2.2.2.2.1 hH.1 _ 0 (mj_w_at (Ω := Ω) hsh) rfl rfl hdg (hk _ h H locs ls hH hl)
      · split at h
        · rename_i kd xs hc
          obtain ⟨hqa, hT⟩ := mj_kc_T F.2.2.2.2.2.2.2.2.2.2 hc
          rw [List.map_cons]
          simp only [mj_v]
          rw [hqa]
          rcases hT with ⟨-, hT⟩ | ⟨-, hT⟩
          · exact va_tlen F.1 F.2.1 hT hH.2.2 rfl hdg (hk _ h H locs ls hH hl)
          · exact va_tlen F.1 F.2.1 hT hH.2.2 rfl hdg (hk _ h H locs ls hH hl)
        · exact h.elim
      · exact h.elim
    · exact h.elim
  | _ => exact h.elim
theorem mj_run_ok (F : mj_F Ω p s m args meth c o ini cc nL ret) : ∀ (is : List Instr) {pc pe : Nat} {S : mj_S} {K : mj_S → Prop}, mj_dec cc pc is pe → mj_run o ini nL is S K → (∀ S', K S' → mj_Wg Ω al nL p l e R s m args below meth c cells slots Q pe S') → mj_Wg Ω al nL p l e R s m args below meth c cells slots Q pc S
  | [], pc, pe, S, K, hd, h, hk => by
    cases hd
    exact hk S h
  | i :: is, pc, pe, S, K, hd, h, hk => mj_stp_ok F hd.1 h (fun S' h' => mj_run_ok F is hd.2 h' hk)
end MJV
end
section
/-! ===== methods of the small machine: contracts, what a stretch with branches and calls asks ===== -/
def mj_rm (d mc ms : Nat) : Room := { frames := d, cells := mc, slots := ms, locals := 64 * d }
def mj_ws (μ : mj_m) : List Cond := .code μ.2.2.2.2.2 μ.2.2.1 μ.2.2.2.1 μ.2.2.2.2.1 :: mj_GW
def mj_St (Ω : mj_Om) (al : Bool) (M : mj_M) (U : State) : Prop := va_P Ω.1 vwCl (mj_w Ω M) U.heap ∧ (al = true → U.heap.size = Ω.2.2.1 + M.1.length) ∧ Ω.2.2.1 ≤ U.heap.size ∧ va_K Ω.1 vwCl (mj_ty Ω) U ∧ mj_Kc Ω U
def mj_Pc (Ω : mj_Om) (al : Bool) (as : List Value) (M : mj_M) : Array Value → State → Prop := fun v U => v = (as.map (mj_v Ω)).toArray ∧ mj_St Ω al M U
def mj_Qc (Ω : mj_Om) (al : Bool) (Φ : Option Value → mj_M → Prop) : Array Value → State → Outcome → State → Prop := fun _ st oc t => (∃ (r : Option Value) (M' : mj_M), oc = .returned (r.map (mj_v Ω)) ∧ Φ r M' ∧ mj_St Ω al M' t) ∧ va_F (mj_A Ω) st t
def mj_Met (Ω : mj_Om) (l : Launch) (al : Bool) (μ : mj_m) (d mc ms : Nat) (as : List Value) (M : mj_M) (Φ : Option Value → mj_M → Prop) : Prop :=
  Met l μ.2.2.2.2.2 (mj_ws μ) (mj_rm d mc ms) (mj_Pc Ω al as M) (mj_Qc Ω al Φ) mc ms (mj_A Ω)
/-- the goal at a place of a method -/
def mj_G (Ω : mj_Om) (l : Launch) (al : Bool) (μ : mj_m) (d mc ms : Nat) (Φ : Option Value → mj_M → Prop) (k n pc : Nat) (S : mj_S) : Prop :=
  ∀ (p : Program) (e : Env) (s : State) (m : MethodId) (args : Array Value) (below : List Frame) (meth : Method) (c : Code), mj_F Ω p s m args meth c μ.1 μ.2.1 μ.2.2.1 μ.2.2.2.1 μ.2.2.2.2.1 →
    mj_Wg Ω al μ.2.2.2.1 p l e (mj_rm d mc ms) s m args below meth c k n (MQ below (mj_Qc Ω al Φ) args s mc ms (mj_A Ω)) pc S
/-- the same, with any room and end -/
def mj_GX (Ω : mj_Om) (l : Launch) (al : Bool) (μ : mj_m) (R : Room) (QX : List Frame → Array Value → State → State → Prop) (pc : Nat) (S : mj_S) : Prop :=
  ∀ (p : Program) (e : Env) (s : State) (m : MethodId) (args : Array Value) (below : List Frame) (meth : Method) (c : Code), mj_F Ω p s m args meth c μ.1 μ.2.1 μ.2.2.1 μ.2.2.2.1 μ.2.2.2.2.1 →
    mj_Wg Ω al μ.2.2.2.1 p l e R s m args below meth c 0 0 (QX below args s) pc S
abbrev mj_PT : Type := List Value → mj_M → (Option Value → mj_M → Prop) → Prop
def mj_tgt (pc : Nat) (off : Int) : Nat := ((pc : Int) + off).toNat
def mj_jmp (pc : Nat) (off : Int) (K : Nat → Prop) : Prop := match decide ((pc : Int) + off = ((mj_tgt pc off : Nat) : Int)) with
  | true => K (mj_tgt pc off)
  | false => False
def mj_cc (c : ClassFile.Cond) (x y : Int32) (A B : Prop) : Prop := match c with
  | .eq => if x = y then A else B
  | .ne => if x = y then B else A
  | .lt => if x < y then A else B
  | .ge => if x < y then B else A
  | .gt => if y < x then A else B
  | .le => if y < x then B else A
def mj_rti (ret : Option FieldType) (x : Int32) : Bool := match ret with
  | some .int => true
  | some .boolean => decide (x = 0) || decide (x = 1)
  | some .byte => decide (x = 0)
  | _ => false
def mj_sw (pc : Nat) (x : Int32) (dflt : Int) : List (Int × Int) → (Nat → Prop) → Prop
  | [], K => mj_jmp pc dflt K
  | (v, off) :: r, K => if x = Int32.ofInt v then mj_jmp pc off K else mj_sw pc x dflt r K
def mj_rg (ps : List (Int × Int)) : Bool := ps.all (fun q => decide ((Int32.ofInt q.1).toInt = q.1))
def mj_tp (lo : Int) (offs : Array Int) : List (Int × Int) := offs.toList.mapIdx (fun j off => (lo + (j : Int), off))
/-- only the locals that are told -/
def mj_msk (b : List Bool) (L : List (Option Value)) : List (Option Value) := L.mapIdx (fun i v => match b.getD i false with
  | true => v
  | false => none)
def mj_ct (cut : List (Nat × List Bool)) (go : Bool) (pc : Nat) : Option (List Bool) := match go with
  | true => none
  | false => cut.lookup pc
/-- cuts: where it is left to K; cs: the calls, by pool number: how many values they take, what they ask -/
def mj_wp (μ : mj_m) (P : List (Nat × Instr × Nat)) (cut : List (Nat × List Bool)) (cs : List (Nat × Nat × Nat × mj_PT)) (Φ : Option Value → mj_M → Prop) (K : Nat → mj_S → Prop) : Nat → Bool → Nat → mj_S → Prop
  | 0, _, pc, S => K pc S
  | f + 1, go, pc, S => match mj_ct cut go pc, P.lookup pc with
    | some b, _ => K pc (mj_msk b S.1, S.2.1, S.2.2)
    | none, none => False
    | none, some (i, _) => match i with
      | .tableswitch dflt lo hi offs => match S.2.1 with
        | .int x :: st => match mj_rg (mj_tp lo offs) && decide (hi + 1 = lo + (offs.toList.length : Int)) with
          | true => mj_sw pc x dflt (mj_tp lo offs) (fun t => mj_wp μ P cut cs Φ K f false t (S.1, st, S.2.2))
          | false => False
        | _ => False
      | .lookupswitch dflt ps => match S.2.1 with
        | .int x :: st => match mj_rg ps.toList && (ps.toList.zip (ps.toList.drop 1)).all (fun (a, next) => a.1 < next.1) with
          | true => mj_sw pc x dflt ps.toList (fun t => mj_wp μ P cut cs Φ K f false t (S.1, st, S.2.2))
          | false => False
        | _ => False
      | .getstatic k => mj_gst μ.1 k S (fun S' => mj_wp μ P cut cs Φ K f false (pc + 3) S')
      | .goto off => mj_jmp pc off (fun t => mj_wp μ P cut cs Φ K f false t S)
      | .ifCond c off => match S.2.1 with
        | .int x :: st => mj_jmp pc off (fun t => mj_cc c x 0 (mj_wp μ P cut cs Φ K f false t (S.1, st, S.2.2)) (mj_wp μ P cut cs Φ K f false (pc + 3) (S.1, st, S.2.2)))
        | _ => False
      | .if_icmp c off => match S.2.1 with
        | .int y :: .int x :: st => mj_jmp pc off (fun t => mj_cc c x y (mj_wp μ P cut cs Φ K f false t (S.1, st, S.2.2)) (mj_wp μ P cut cs Φ K f false (pc + 3) (S.1, st, S.2.2)))
        | _ => False
      | .ireturn => match S.2.1 with
        | [.int x] => mj_gd (mj_rti μ.2.2.2.2.1 x) (Φ (some (.int x)) S.2.2)
        | _ => False
      | .lreturn => match S.2.1, μ.2.2.2.2.1 with
        | [.long x], some .long => Φ (some (.long x)) S.2.2
        | _, _ => False
      | .return_ => match S.2.1, μ.2.2.2.2.1 with
        | [], none => Φ none S.2.2
        | _, _ => False
      | .invokevirtual k => match cs.lookup k with
        | some (kd, n, pt) => match decide (kd = 0 ∧ n ≤ S.2.1.length ∧ ((S.2.1.drop n).map (fun v => v.category)).sum ≤ 8) with
          | true => pt (S.2.1.take n).reverse S.2.2 (fun r M => mj_wp μ P cut cs Φ K f false (pc + 3) (S.1, r.toList ++ S.2.1.drop n, M))
          | false => False
        | none => False
      | .invokestatic k => match cs.lookup k with
        | some (kd, n, pt) => match decide (kd = 1 ∧ n ≤ S.2.1.length ∧ ((S.2.1.drop n).map (fun v => v.category)).sum ≤ 8) with
          | true => pt (S.2.1.take n).reverse S.2.2 (fun r M => mj_wp μ P cut cs Φ K f false (pc + 3) (S.1, r.toList ++ S.2.1.drop n, M))
          | false => False
        | none => False
      | .invokespecial k => match cs.lookup k with
        | some (kd, n, pt) => match decide (kd = 2 ∧ n ≤ S.2.1.length ∧ ((S.2.1.drop n).map (fun v => v.category)).sum ≤ 8) with
          | true => pt (S.2.1.take n).reverse S.2.2 (fun r M => mj_wp μ P cut cs Φ K f false (pc + 3) (S.1, r.toList ++ S.2.1.drop n, M))
          | false => False
        | none => False
      | i => mj_stp μ.1 μ.2.1 μ.2.2.2.1 i S (fun S' => mj_wp μ P cut cs Φ K f false (pc + mj_len i) S')
def mj_inv (kd k : Nat) : Instr := match kd with
  | 0 => .invokevirtual k
  | 1 => .invokestatic k
  | _ => .invokespecial k
/-- what a call asks of its callee: as the machine has it -/
def mj_Call (Ω : mj_Om) (l : Launch) (al : Bool) (μ : mj_m) (d k kd n : Nat) (pt : mj_PT) : Prop :=
  ∀ (p : Program) (e : Env) (s : State) (m : MethodId) (args : Array Value) (below : List Frame) (meth : Method) (c : Code) (Q : State → Prop) (R : Room) (k0 n0 pc : Nat) (L : List (Option Value)) (as rest : List Value) (M : mj_M) (Φ : Option Value → mj_M → Prop), mj_F Ω p s m args meth c μ.1 μ.2.1 μ.2.2.1 μ.2.2.2.1 μ.2.2.2.2.1 → (d ≤ R.frames ∧ 64 * d ≤ R.locals ∧ k0 ≤ R.cells ∧ n0 ≤ R.slots) →
    decode μ.2.2.1 pc = .ok (mj_inv kd k, 3) → as.length = n → (rest.map (fun v => v.category)).sum ≤ 8 → pt as M Φ →
    (∀ r M', Φ r M' → mj_Wg Ω al μ.2.2.2.1 p l e R s m args below meth c k0 n0 Q (pc + 3) (L, r.toList ++ rest, M')) →
    mj_Wg Ω al μ.2.2.2.1 p l e R s m args below meth c k0 n0 Q pc (L, as.reverse ++ rest, M)
section MJW
variable {Ω : mj_Om} {l : Launch} {al : Bool} {μ : mj_m} {d : Nat} {Φ : Option Value → mj_M → Prop}
theorem mj_msk_ok {b : List Bool} {L : List (Option Value)} {ls : Array Slot} {nL : Nat} (h : mj_has Ω ls nL L) : mj_has Ω ls nL (mj_msk b L) := by
  refine ⟨h.1, h.2.1, fun i v hv => h.2.2 i v ?_⟩
  simp only [mj_msk, List.getElem?_mapIdx, Option.map_eq_some_iff] at hv
  obtain ⟨w, hw, hv⟩ := hv
  split at hv
  · rw [hw, hv]
  · cases hv
theorem mj_jmp_ok {pc : Nat} {off : Int} {K : Nat → Prop} (h : mj_jmp pc off K) : ∃ t : Nat, (pc : Int) + off = (t : Int) ∧ K t := by
  unfold mj_jmp at h
  split at h
  · rename_i hd
    exact ⟨_, of_decide_eq_true hd, h⟩
  · exact h.elim
theorem mj_sw_ok {pc : Nat} {x : Int32} {dflt : Int} {K : Nat → Prop} : ∀ {ps : List (Int × Int)}, mj_sw pc x dflt ps K → (∃ v off, (v, off) ∈ ps ∧ x = Int32.ofInt v ∧ mj_jmp pc off K) ∨ ((∀ v off, (v, off) ∈ ps → ¬ x = Int32.ofInt v) ∧ mj_jmp pc dflt K)
  | [], h => Or.inr ⟨fun _ _ h => (by cases h), h⟩
  | (v, off) :: r, h => by
    rw [mj_sw] at h
    by_cases e : x = Int32.ofInt v
    · rw [if_pos e] at h
      exact Or.inl ⟨v, off, List.mem_cons_self, e, h⟩
    · rw [if_neg e] at h
      rcases mj_sw_ok h with ⟨v2, o2, h1, h2, h3⟩ | ⟨h1, h2⟩
      · exact Or.inl ⟨v2, o2, List.mem_cons_of_mem _ h1, h2, h3⟩
      · refine Or.inr ⟨fun v2 o2 hm => ?_, h2⟩
        rcases List.mem_cons.mp hm with q | q
        · cases q; exact e
        · exact h1 v2 o2 q
theorem mj_lk_ok {pc : Nat} {x : Int32} {dflt : Int} {K : Nat → Prop} : ∀ {ps : List (Int × Int)}, mj_rg ps = true → mj_sw pc x dflt ps K → mj_jmp pc (Op.lookupswitch.offset ps dflt x.toInt) K
  | [], _, h => h
  | (v, off) :: r, hr, h => by
    simp only [mj_rg, List.all_cons, Bool.and_eq_true, decide_eq_true_eq] at hr
    rw [mj_sw] at h
    rw [Op.lookupswitch.offset_cons]
    by_cases e : x = Int32.ofInt v
    · rw [if_pos e] at h
      rw [if_pos (by rw [e]; exact hr.1.symm)]
      exact h
    · rw [if_neg e] at h
      rw [if_neg (fun q => e (Int32.toInt_inj.mp (by rw [hr.1]; exact q.symm)))]
      exact mj_lk_ok hr.2 h
theorem mj_leave {s : State} {H : Heap} {locs : List Loc} {M : mj_M} {as : Array Value} (hb : Ω.2.2.1 ≤ s.heap.size) (hK : va_K Ω.1 vwCl (mj_ty Ω) s) (hKc : mj_Kc Ω s) (hH : mj_H Ω al M s H locs) (r : Option Value) (hr : Φ r M) : ∀ t : State, t.heap = H → s.WarmedH t.vm → mj_Qc Ω al Φ as s (.returned (r.map (mj_v Ω))) t := by
  intro t ht hW
  refine ⟨⟨r, M, rfl, hr, by rw [ht]; exact hH.1, by rw [ht]; exact hH.2.1, ?_, va_K.moved hW.alike hK, mj_Kc_warm hKc hW (fun a h1 h2 => by rw [ht]; exact hH.2.2.2.1 a h1 h2)⟩, hH.2.2.F ht⟩
  rw [ht]
  exact Nat.le_trans hb hH.2.2.1
theorem mj_W_mono {p : Program} {e : Env} {R : Room} {s : State} {m : MethodId} {args : Array Value} {below : List Frame} {meth : Method} {c : Code} {H : Heap} {locs : List Loc} {cells slots : Nat} {Q Q' : State → Prop} {g : JFrame} (h : ∀ t, Q t → Q' t) (k : W p l e R s m args below meth c H locs cells slots Q g) : W p l e R s m args below meth c H locs cells slots Q' g := by
  intro T hT X
  obtain ⟨t, a, b⟩ := k T hT X
  exact ⟨t, a, h t b⟩
set_option maxHeartbeats 4000000 in
theorem mj_wp_okX {R : Room} {QX : List Frame → Array Value → State → State → Prop} (hRX : d ≤ R.frames ∧ 64 * d ≤ R.locals) (hQX : ∀ below args s t, MQ below (mj_Qc Ω al Φ) args s 0 0 (mj_A Ω) t → QX below args s t) {P : List (Nat × Instr × Nat)} {cut : List (Nat × List Bool)} {cs : List (Nat × Nat × Nat × mj_PT)} {K : Nat → mj_S → Prop} (hP : mj_pd μ.2.2.1 P) (hcs : ∀ q ∈ cs, mj_Call Ω l al μ d q.1 q.2.1 q.2.2.1 q.2.2.2) (hK : ∀ pc S, K pc S → mj_GX Ω l al μ R QX pc S) :
    ∀ (f : Nat) (go : Bool) (pc : Nat) (S : mj_S), mj_wp μ P cut cs Φ K f go pc S → mj_GX Ω l al μ R QX pc S
  | 0, _, pc, S, h => hK pc S h
  | f + 1, go, pc, S, h => by
    have ih := mj_wp_okX (cut := cut) hRX hQX hP hcs hK f
    rw [mj_wp] at h
    split at h
    · intro p e s m args below meth c F H locs ls hH hl
      exact hK _ _ h p e s m args below meth c F H locs ls hH (mj_msk_ok hl)
    · exact h.elim
    · rename_i i len _ hlk
      obtain ⟨hdg, hlen⟩ := hP _ (mj_lookup_mem hlk)
      simp only at hdg hlen
      intro p e s m args below meth c F
      by_cases hsw : mj_isSw i = true
      · cases i with
        | tableswitch dflt lo hi offs =>
          obtain ⟨L, st, M⟩ := S
          simp only at h
          split at h
          · rename_i x st'
            split at h
            · rename_i hd
              simp only [Bool.and_eq_true, decide_eq_true_eq] at hd
              intro H locs ls hH hl
              rcases mj_sw_ok h with ⟨v, off, hm, hx, hj⟩ | ⟨hno, hj⟩
              · obtain ⟨t, ht, hk9⟩ := mj_jmp_ok hj
                have hv := of_decide_eq_true (List.all_eq_true.mp hd.1 _ hm)
                obtain ⟨j, hj2⟩ := List.getElem?_of_mem hm
                simp only [mj_tp, List.getElem?_mapIdx, Option.map_eq_some_iff, Prod.mk.injEq] at hj2
                obtain ⟨o2, ho2, hv2, rfl⟩ := hj2
                have hxv : x.toInt = lo + (j : Int) := by rw [hx, hv, hv2]
                have hjl : j < offs.toList.length := (List.getElem?_eq_some_iff.mp ho2).1
                exact lv_tableIn F.1 F.2.1 hdg (by omega) (by omega) (by rw [show (x.toInt - lo).toNat = j by omega, ← Array.getElem?_toList]; exact ho2) ht (ih _ _ _ hk9 p e s m args below meth c F H locs ls hH hl)
              · obtain ⟨t, ht, hj⟩ := mj_jmp_ok hj
                refine lv_tableOut F.1 F.2.1 hdg ?_ ht (ih _ _ _ hj p e s m args below meth c F H locs ls hH hl)
                by_cases q1 : x.toInt < lo
                · exact Or.inl q1
                · by_cases q2 : hi < x.toInt
                  · exact Or.inr q2
                  · exfalso
                    have hjl : (x.toInt - lo).toNat < offs.toList.length := by omega
                    have hm : (lo + (((x.toInt - lo).toNat : Nat) : Int), offs.toList[(x.toInt - lo).toNat]) ∈ mj_tp lo offs := List.mem_of_getElem? (i := (x.toInt - lo).toNat) (by simp only [mj_tp, List.getElem?_mapIdx, List.getElem?_eq_getElem hjl]; rfl)
                    have hv := of_decide_eq_true (List.all_eq_true.mp hd.1 _ hm)
                    refine hno _ _ hm (Int32.toInt_inj.mp ?_)
                    rw [hv]
                    simp only
                    omega
            · exact h.elim
          · exact h.elim
        | lookupswitch dflt ps =>
          obtain ⟨L, st, M⟩ := S
          simp only at h
          split at h
          · rename_i x st'
            split at h
            · rename_i hd
              simp only [Bool.and_eq_true] at hd
              intro H locs ls hH hl
              obtain ⟨t, ht, hj⟩ := mj_jmp_ok (mj_lk_ok hd.1 h)
              exact lv_lookup F.1 F.2.1 hdg hd.2 rfl ht (ih _ _ _ hj p e s m args below meth c F H locs ls hH hl)
            · exact h.elim
          · exact h.elim
        | _ => simp [mj_isSw] at hsw
      have hlen : len = mj_il i := by
        rcases hlen with q | q
        · exact absurd q hsw
        · exact q
      subst hlen
      cases i with
      | tableswitch dflt lo hi offs => simp [mj_isSw] at hsw
      | lookupswitch dflt ps => simp [mj_isSw] at hsw
      | goto off =>
        obtain ⟨t, ht, h⟩ := mj_jmp_ok h
        intro H locs ls hH hl
        exact lv_goto F.1 F.2.1 hdg ht (ih false t S h p e s m args below meth c F H locs ls hH hl)
      | ifCond cd off =>
        obtain ⟨L, st, M⟩ := S
        simp only at h
        split at h
        · obtain ⟨t, ht, h⟩ := mj_jmp_ok h
          intro H locs ls hH hl
          cases cd with
          | eq => exact lv_if_eq F.1 F.2.1 hdg ht (fun q => by simp only [mj_cc] at h; rw [if_pos q] at h; exact ih _ _ _ h p e s m args below meth c F H locs ls hH hl) (fun q => by simp only [mj_cc] at h; rw [if_neg q] at h; exact ih _ _ _ h p e s m args below meth c F H locs ls hH hl)
          | ne => exact lv_if_ne F.1 F.2.1 hdg ht (fun q => by simp only [mj_cc] at h; rw [if_neg q] at h; exact ih _ _ _ h p e s m args below meth c F H locs ls hH hl) (fun q => by simp only [mj_cc] at h; rw [if_pos q] at h; exact ih _ _ _ h p e s m args below meth c F H locs ls hH hl)
          | lt => exact lv_if_lt F.1 F.2.1 hdg ht (fun q => by simp only [mj_cc] at h; rw [if_pos q] at h; exact ih _ _ _ h p e s m args below meth c F H locs ls hH hl) (fun q => by simp only [mj_cc] at h; rw [if_neg q] at h; exact ih _ _ _ h p e s m args below meth c F H locs ls hH hl)
          | ge => exact lv_if_ge F.1 F.2.1 hdg ht (fun q => by simp only [mj_cc] at h; rw [if_neg (Int32.not_lt.mpr q)] at h; exact ih _ _ _ h p e s m args below meth c F H locs ls hH hl) (fun q => by simp only [mj_cc] at h; rw [if_pos (Int32.not_le.mp q)] at h; exact ih _ _ _ h p e s m args below meth c F H locs ls hH hl)
          | gt => exact lv_if_gt F.1 F.2.1 hdg ht (fun q => by simp only [mj_cc] at h; rw [if_pos q] at h; exact ih _ _ _ h p e s m args below meth c F H locs ls hH hl) (fun q => by simp only [mj_cc] at h; rw [if_neg q] at h; exact ih _ _ _ h p e s m args below meth c F H locs ls hH hl)
          | le => exact lv_if_le F.1 F.2.1 hdg ht (fun q => by simp only [mj_cc] at h; rw [if_neg (Int32.not_lt.mpr q)] at h; exact ih _ _ _ h p e s m args below meth c F H locs ls hH hl) (fun q => by simp only [mj_cc] at h; rw [if_pos (Int32.not_le.mp q)] at h; exact ih _ _ _ h p e s m args below meth c F H locs ls hH hl)
        · exact h.elim
      | if_icmp cd off =>
        obtain ⟨L, st, M⟩ := S
        simp only at h
        split at h
        · obtain ⟨t, ht, h⟩ := mj_jmp_ok h
          intro H locs ls hH hl
          cases cd with
          | eq => exact lv_icmp_eq F.1 F.2.1 hdg ht (fun q => by simp only [mj_cc] at h; rw [if_pos q] at h; exact ih _ _ _ h p e s m args below meth c F H locs ls hH hl) (fun q => by simp only [mj_cc] at h; rw [if_neg q] at h; exact ih _ _ _ h p e s m args below meth c F H locs ls hH hl)
          | ne => exact lv_icmp_ne F.1 F.2.1 hdg ht (fun q => by simp only [mj_cc] at h; rw [if_neg q] at h; exact ih _ _ _ h p e s m args below meth c F H locs ls hH hl) (fun q => by simp only [mj_cc] at h; rw [if_pos q] at h; exact ih _ _ _ h p e s m args below meth c F H locs ls hH hl)
          | lt => exact lv_icmp_lt F.1 F.2.1 hdg ht (fun q => by simp only [mj_cc] at h; rw [if_pos q] at h; exact ih _ _ _ h p e s m args below meth c F H locs ls hH hl) (fun q => by simp only [mj_cc] at h; rw [if_neg q] at h; exact ih _ _ _ h p e s m args below meth c F H locs ls hH hl)
          | ge => exact lv_icmp_ge F.1 F.2.1 hdg ht (fun q => by simp only [mj_cc] at h; rw [if_neg (Int32.not_lt.mpr q)] at h; exact ih _ _ _ h p e s m args below meth c F H locs ls hH hl) (fun q => by simp only [mj_cc] at h; rw [if_pos (Int32.not_le.mp q)] at h; exact ih _ _ _ h p e s m args below meth c F H locs ls hH hl)
          | gt => exact lv_icmp_gt F.1 F.2.1 hdg ht (fun q => by simp only [mj_cc] at h; rw [if_pos q] at h; exact ih _ _ _ h p e s m args below meth c F H locs ls hH hl) (fun q => by simp only [mj_cc] at h; rw [if_neg q] at h; exact ih _ _ _ h p e s m args below meth c F H locs ls hH hl)
          | le => exact lv_icmp_le F.1 F.2.1 hdg ht (fun q => by simp only [mj_cc] at h; rw [if_neg (Int32.not_lt.mpr q)] at h; exact ih _ _ _ h p e s m args below meth c F H locs ls hH hl) (fun q => by simp only [mj_cc] at h; rw [if_pos (Int32.not_le.mp q)] at h; exact ih _ _ _ h p e s m args below meth c F H locs ls hH hl)
        · exact h.elim
      | ireturn =>
        obtain ⟨L, st, M⟩ := S
        obtain ⟨hx, hb, hml, hown, hts, hr, hlk2, hKk, hin, hbs, hKc⟩ := F
        simp only at h
        split at h
        · rename_i x
          obtain ⟨h1, h⟩ := mj_gd_iff.mp h
          intro H locs ls hH hl
          have hq := mj_leave (as := args) hbs hKk hKc hH (some (.int x)) h
          unfold mj_rti at h1
          split at h1
          · rename_i hrt
            exact mj_W_mono (hQX below args s) (W.iret hx hb (by rw [hr, hrt]) hq hH.2.2.2.2 hdg hlk2)
          · rename_i hrt
            exact mj_W_mono (hQX below args s) (W.zret hx hb (by rw [hr, hrt]) (by simp only [Bool.or_eq_true, decide_eq_true_eq] at h1; rcases h1 with rfl | rfl <;> decide) hq hH.2.2.2.2 hdg hlk2)
          · rename_i hrt
            have h0 := of_decide_eq_true h1
            subst h0
            exact mj_W_mono (hQX below args s) (W.zret hx hb (by rw [hr, hrt]) (by decide) hq hH.2.2.2.2 hdg hlk2)
          · cases h1
        · exact h.elim
      | lreturn =>
        obtain ⟨L, st, M⟩ := S
        obtain ⟨hx, hb, hml, hown, hts, hr, hlk2, hKk, hin, hbs, hKc⟩ := F
        simp only at h
        split at h
        · rename_i x hrt
          intro H locs ls hH hl
          exact mj_W_mono (hQX below args s) (W.lret hx hb (by rw [hr, hrt]) (mj_leave (as := args) hbs hKk hKc hH (some (.long x)) h) hH.2.2.2.2 hdg hlk2)
        · exact h.elim
      | return_ =>
        obtain ⟨L, st, M⟩ := S
        obtain ⟨hx, hb, hml, hown, hts, hr, hlk2, hKk, hin, hbs, hKc⟩ := F
        simp only at h
        split at h
        · rename_i hrt
          intro H locs ls hH hl
          exact mj_W_mono (hQX below args s) (W.vret hx hb (by rw [hr, hrt]) (mj_leave (as := args) hbs hKk hKc hH none h) hH.2.2.2.2 hdg hlk2)
        · exact h.elim
      | invokevirtual k =>
        obtain ⟨L, st, M⟩ := S
        simp only at h
        split at h
        · rename_i kd n pt hcl
          split at h
          · rename_i hd
            obtain ⟨rfl, h1, h2⟩ := of_decide_eq_true hd
            have hc := hcs _ (mj_lookup_mem hcl) p e s m args below meth c (QX below args s) R 0 0 pc L (st.take n).reverse (st.drop n) M _ F ⟨hRX.1, hRX.2, Nat.zero_le _, Nat.zero_le _⟩ hdg (by simp [List.length_take, h1]) h2 h (fun r M' hr => ih _ _ _ hr p e s m args below meth c F)
            rw [List.reverse_reverse, List.take_append_drop] at hc
            exact hc
          · exact h.elim
        · exact h.elim
      | invokestatic k =>
        obtain ⟨L, st, M⟩ := S
        simp only at h
        split at h
        · rename_i kd n pt hcl
          split at h
          · rename_i hd
            obtain ⟨rfl, h1, h2⟩ := of_decide_eq_true hd
            have hc := hcs _ (mj_lookup_mem hcl) p e s m args below meth c (QX below args s) R 0 0 pc L (st.take n).reverse (st.drop n) M _ F ⟨hRX.1, hRX.2, Nat.zero_le _, Nat.zero_le _⟩ hdg (by simp [List.length_take, h1]) h2 h (fun r M' hr => ih _ _ _ hr p e s m args below meth c F)
            rw [List.reverse_reverse, List.take_append_drop] at hc
            exact hc
          · exact h.elim
        · exact h.elim
      | invokespecial k =>
        obtain ⟨L, st, M⟩ := S
        simp only at h
        split at h
        · rename_i kd n pt hcl
          split at h
          · rename_i hd
            obtain ⟨rfl, h1, h2⟩ := of_decide_eq_true hd
            have hc := hcs _ (mj_lookup_mem hcl) p e s m args below meth c (QX below args s) R 0 0 pc L (st.take n).reverse (st.drop n) M _ F ⟨hRX.1, hRX.2, Nat.zero_le _, Nat.zero_le _⟩ hdg (by simp [List.length_take, h1]) h2 h (fun r M' hr => ih _ _ _ hr p e s m args below meth c F)
            rw [List.reverse_reverse, List.take_append_drop] at hc
            exact hc
          · exact h.elim
        · exact h.elim
      | getstatic k => exact mj_gst_ok F hdg h (fun S' h' => ih _ _ _ h' p e s m args below meth c F)
      | new k => exact (show False from h).elim
      | _ => exact mj_stp_ok F hdg h (fun S' h' => ih _ _ _ h' p e s m args below meth c F)
theorem mj_wp_ok {P : List (Nat × Instr × Nat)} {cut : List (Nat × List Bool)} {cs : List (Nat × Nat × Nat × mj_PT)} {K : Nat → mj_S → Prop} (hP : mj_pd μ.2.2.1 P) (hcs : ∀ q ∈ cs, mj_Call Ω l al μ d q.1 q.2.1 q.2.2.1 q.2.2.2) (hK : ∀ pc S, K pc S → mj_G Ω l al μ d 0 0 Φ 0 0 pc S) (f : Nat) (go : Bool) (pc : Nat) (S : mj_S) (h : mj_wp μ P cut cs Φ K f go pc S) : mj_G Ω l al μ d 0 0 Φ 0 0 pc S :=
  mj_wp_okX (R := mj_rm d 0 0) (QX := fun below args s => MQ below (mj_Qc Ω al Φ) args s 0 0 (mj_A Ω)) ⟨Nat.le_refl _, Nat.le_refl _⟩ (fun _ _ _ _ h => h) hP hcs hK f go pc S h
end MJW
end
section
/-! ===== entry and calls ===== -/
def mj_flat (as : List Value) : List (Option Value) := as.flatMap (fun v => if v.category = 2 then [some v, none] else [some v])
def mj_ent (nL : Nat) (as : List Value) : List (Option Value) := mj_flat as ++ List.replicate (nL - (mj_flat as).length) none
/-- a call through an object of class ci -/
def mj_rcv (ci : Nat) (pt : mj_PT) : mj_PT := fun as M Φ => match as with
  | .ref a :: _ => match decide (mj_sh M a = some (ci + 4, 0)) with
    | true => pt as M Φ
    | false => False
  | _ => False
section MJE
variable {Ω : mj_Om} {l : Launch} {al : Bool} {μ : mj_m} {d mc ms : Nat} {Φ : Option Value → mj_M → Prop} {M : mj_M} {as : List Value}
theorem mj_flat_in : ∀ (as : List Value) (n0 i : Nat) (v : Value), (mj_flat as)[i]? = some (some v) → (n0 + i, mj_v Ω v) ∈ lv_args n0 (as.map (mj_v Ω))
  | [], n0, i, v, h => by simp [mj_flat] at h
  | a :: as, n0, i, v, h => by
    have hf : mj_flat (a :: as) = (if a.category = 2 then [some a, none] else [some a]) ++ mj_flat as := rfl
    rw [hf] at h
    rw [List.map_cons, lv_args, mj_v_cat]
    by_cases hc : a.category = 2
    · rw [if_pos hc] at h ⊢
      match i, h with
      | 0, h => simp at h; subst h; exact List.mem_cons_self
      | 1, h => simp at h
      | i + 2, h =>
        have h2 : (mj_flat as)[i]? = some (some v) := by simpa using h
        have := mj_flat_in as (n0 + 2) i v h2
        rw [show n0 + (i + 2) = n0 + 2 + i by omega]
        exact List.mem_cons_of_mem _ this
    · rw [if_neg hc] at h ⊢
      match i, h with
      | 0, h => simp at h; subst h; exact List.mem_cons_self
      | i + 1, h =>
        have h2 : (mj_flat as)[i]? = some (some v) := by simpa using h
        have := mj_flat_in as (n0 + 1) i v h2
        rw [show n0 + (i + 1) = n0 + 1 + i by omega]
        exact List.mem_cons_of_mem _ this
theorem mj_flat_len : ∀ (as : List Value), (lg_sl (as.map (mj_v Ω))).length = (mj_flat as).length
  | [] => rfl
  | a :: as => by
    have hf : mj_flat (a :: as) = (if a.category = 2 then [some a, none] else [some a]) ++ mj_flat as := rfl
    have hg : lg_sl ((a :: as).map (mj_v Ω)) = (if (mj_v Ω a).category = 2 then [.val (mj_v Ω a), .second] else [.val (mj_v Ω a)]) ++ lg_sl (as.map (mj_v Ω)) := rfl
    rw [hf, hg, List.length_append, List.length_append, mj_flat_len as, mj_v_cat]
    by_cases hc : a.category = 2
    · rw [if_pos hc, if_pos hc]; rfl
    · rw [if_neg hc, if_neg hc]; rfl
theorem mj_entry (hy : plainName μ.2.2.2.2.2.cls = true) (ho : mj_own.getD μ.1 "" = μ.2.2.2.2.2.cls) (hi : μ.2.1 = true → μ.2.2.2.2.2.name = "<init>") (ha : (mj_flat as).length ≤ μ.2.2.2.1)
    (h : mj_G Ω l al μ d mc ms Φ 0 0 0 (mj_ent μ.2.2.2.1 as, [], M)) : mj_Met Ω l al μ d mc ms as M Φ := by
  refine Met.ofW (cc := μ.2.2.1) (maxL := μ.2.2.2.1) (ret := μ.2.2.2.2.1) hy rfl ?_
  intro p e s m args below meth c s₁ B hml hv
  obtain ⟨rfl, hP, hal, hbs, hK, hKc⟩ := hv
  have hts := atoms_spec (ws := mj_ws μ) B.pre
  have hown : s.vm.findClass (mj_own.getD μ.1 "") = some m.cls := by rw [ho]; exact findClass_of_methodNamed B.named
  have F : mj_F Ω p s m (as.map (mj_v Ω)).toArray meth c μ.1 μ.2.1 μ.2.2.1 μ.2.2.2.1 μ.2.2.2.2.1 :=
    ⟨B.exec, B.bytes, hml, hown, fun w hw => hts w (List.mem_cons_of_mem _ hw), B.returns, B.notSynchronized, hK, fun q => ((name_of_methodNamed B.named B.method).1).trans (hi q), hbs, hKc⟩
  have hle : (lg_sl (as.map (mj_v Ω))).length ≤ μ.2.2.2.1 := by rw [mj_flat_len]; exact ha
  have hl := lv_entry (as.map (mj_v Ω)) hle
  rw [lg_entry_eq]
  refine h p e s m _ below meth c F s.heap [] _ ⟨hP, hal, va_S.rf⟩ ⟨hl.1, hl.2.1, fun i v hiv => ?_⟩
  have hil : i < (mj_flat as).length := by
    rcases Nat.lt_or_ge i (mj_flat as).length with q | q
    · exact q
    · simp only [mj_ent] at hiv
      rw [List.getElem?_append_right q] at hiv
      have := List.mem_of_getElem? hiv
      simp at this
  have h2 : (mj_flat as)[i]? = some (some v) := by
    simp only [mj_ent] at hiv
    rwa [List.getElem?_append_left hil] at hiv
  have := hl.2.2 _ (mj_flat_in (Ω := Ω) as 0 i v h2)
  simpa using this
theorem mj_good {w : Cond} (h : w ∈ mj_GW) : w ∈ mj_GW ∧ ((w.onTables && w.keeps) = true ∨ ∃ ty, w = .arrayClass ty) := ⟨h, good_of_word (List.mem_filter.mp h).2⟩
theorem mj_blind : FrameBlind (mj_Pc Ω al as M) := by
  intro a U g mk q
  obtain ⟨q1, q2, q3, q4, q5, q6⟩ := q
  exact ⟨q1, q2, q3, q4, va_K.moved (u := U) (U := U.calling g mk a) (Vm.Alike.refl U.vm) q5, mj_Kc_same q6 rfl rfl⟩
/-- behind a call -/
theorem mj_after {p : Program} {e : Env} {R : Room} {s : State} {m : MethodId} {args : Array Value} {below : List Frame} {meth : Method} {c : Code} {H : Heap} {locs : List Loc} {cells slots k n : Nat} {Q : State → Prop} {pc : Nat} {ls : Array Slot} {st0 rest : List Value} {a : Array Value} {nL : Nat} {L : List (Option Value)}
    (hr : va_Run p l e R s m args below meth c H locs cells slots k n (F0 m pc ls st0) (rest.map (mj_v Ω)) (mj_Qc Ω al Φ a) (mj_A Ω)) (hS : va_S (mj_A Ω) s.heap H locs) (hl : mj_has Ω ls nL L)
    (kk : ∀ r M', Φ r M' → mj_Wg Ω al nL p l e R s m args below meth c (cells + k) (slots + n) Q (pc + 3) (L, r.toList ++ rest, M')) : W p l e R s m args below meth c H locs cells slots Q (F0 m pc ls st0) := by
  intro T hT X
  obtain ⟨v, st₀, t, T', L1, h0, X', hL, e1, e2, ⟨⟨r, M', hv, hp, hP, hal, hb, hK, hKc⟩, hz, hk⟩, st⟩ := hr T hT X
  have hv : v = r.map (mj_v Ω) := by simpa using hv
  rw [h0] at hz hk
  have hS' : va_S (mj_A Ω) s.heap T'.heap (locs ++ L1) := ⟨Nat.le_trans hS.1 (by rw [e1]; exact hz), fun q h1 h2 => by rw [e1, hk q (Nat.lt_of_lt_of_le h1 hS.1) h2]; exact hS.2.1 q h1 h2, fun q hq => by
      rcases List.mem_append.mp hq with h | h
      · exact hS.2.2 q h
      · exact hL q h⟩
  obtain ⟨t2, a1, b1⟩ := kk r M' hp T'.heap (locs ++ L1) ls ⟨by rw [e1]; exact hP, by rw [e1]; exact hal, hS'⟩ hl T' rfl X'
  refine ⟨t2, st t2 ?_, b1⟩
  have hs : v.toList ++ rest.map (mj_v Ω) = (r.toList ++ rest).map (mj_v Ω) := by
    rw [hv]
    cases r <;> simp
  show Steps p.tables e below (T'.setTop (F0 m (pc + 3) ls (v.toList ++ rest.map (mj_v Ω)))) t2
  rw [hs]
  exact a1
def mj_np (μ : mj_m) : Option Nat := (parseMethodDescriptor μ.2.2.2.2.2.desc).map (fun d => d.parameters.length)
theorem mj_callV {μ' : mj_m} {d' ci k n : Nat} {pt : mj_PT} {q : vw_C} (hd : d' + 1 ≤ d) (hM : ∀ as M Φ, pt as M Φ → mj_Met Ω l al μ' d' 0 0 as M Φ) (hf : mj_mf μ') (hq : vwCl[ci]? = some q) (hcl : μ'.2.2.2.2.2.cls = q.1) (hi : Cond.instanceMethod μ'.2.2.2.2.2 ∈ mj_GW) (hs : Cond.selects q.1 μ'.2.2.2.2.2 μ'.2.2.2.2.2 ∈ mj_GW)
    (hn : mj_np μ' = some n) (hlk : Cond.methodLink (mj_own.getD μ.1 "") k μ'.2.2.2.2.2 ∈ mj_GW) : mj_Call Ω l al μ d k 0 (n + 1) (mj_rcv ci pt) := by
  intro p e s m args below meth c Q R k0 n0 pc L as rest M Φ F hRR hdg hlen hW hpt hk H locs ls hH hl
  obtain ⟨hx, hb, hml, hown, hts, hr, hlk2, hK, hin, hbs, hKc⟩ := F
  simp only [mj_rcv] at hpt
  split at hpt
  · rename_i a tl
    split at hpt
    · rename_i hdd
      have hsh := of_decide_eq_true hdd
      have he := mj_w_at (Ω := Ω) hsh
      have hG : GoodIn mj_GW (wsV (mj_own.getD μ.1 "") k q.1 μ'.2.2.2.2.2 (mj_ws μ')) := by
        intro w hw
        unfold wsV mj_ws at hw
        simp only [List.cons_append, List.nil_append, List.mem_cons] at hw
        rcases hw with rfl | rfl | rfl | rfl | rfl | hw
        · exact mj_good hlk
        · exact mj_good hi
        · exact mj_good hs
        · rw [← hcl]; exact mj_good hf.2.1
        · exact mj_good hf.1
        · exact mj_good hw
      have cw := cwV (R := R) (s := s) (args := args) (own := mj_own.getD μ.1 "") (C := q.1) (index := k) (y := μ'.2.2.2.2.2) (bytes := μ'.2.2.1) (maxL := μ'.2.2.2.1) (ret := μ'.2.2.2.2.1) (ws := mj_ws μ') (rm := mj_rm d' 0 0) (mc := 0) (ms := 0) n hts hG rfl rfl rfl ⟨hcl, hf.2.2.2.1, hf.2.2.2.2, hn⟩ ⟨by show d' + 1 ≤ R.frames; omega, by show 8 + (μ'.2.2.2.1 + 11) + 64 * d' ≤ R.locals; have := hf.2.2.1; omega⟩
      have run := va_runV (l := l) (e := e) (below := below) (meth := meth) (cells := k0) (slots := n0) (locs := locs) (As := tl.map (mj_v Ω)) (rest := rest.map (mj_v Ω)) (g := F0 m pc ls (((.ref a :: tl).reverse ++ rest).map (mj_v Ω))) (b := mj_q Ω a) (H := H) ⟨hx, hb, hml, hown, hts⟩ (hM _ _ _ hpt) cw
        ⟨mj_blind, va_recv hK hH.1 hq he, fun U hU hWm => ⟨rfl, by rw [hU]; exact hH.1, by rw [hU]; exact hH.2.1, by rw [hU]; exact Nat.le_trans hbs hH.2.2.1, va_K.moved hWm.alike hK, mj_Kc_warm hKc hWm (fun a h1 h2 => by rw [hU]; exact hH.2.2.2.1 a h1 h2)⟩⟩ rfl (by simp at hlen ⊢; omega) hl.1 (by simp [mj_v]) (by
          show 2 * 0 + _ ≤ 8
          have : ((rest.map (mj_v Ω)).map fun v => v.category) = rest.map (fun v => v.category) := by rw [List.map_map]; exact List.map_congr_left (fun v _ => mj_v_cat Ω v)
          rw [this]; omega) hdg ⟨hRR.2.2.1, hRR.2.2.2⟩
      exact mj_after run hH.2.2 hl hk
    · exact hpt.elim
  · exact hpt.elim
theorem mj_callS {μ' : mj_m} {d' k n : Nat} {pt : mj_PT} (hd : d' + 1 ≤ d) (hM : ∀ as M Φ, pt as M Φ → mj_Met Ω l al μ' d' 0 0 as M Φ) (hf : mj_mf μ') (hi : Cond.static μ'.2.2.2.2.2 ∈ mj_GW)
    (hn : mj_np μ' = some n) (hlk : Cond.methodLink (mj_own.getD μ.1 "") k μ'.2.2.2.2.2 ∈ mj_GW) : mj_Call Ω l al μ d k 1 n pt := by
  intro p e s m args below meth c Q R k0 n0 pc L as rest M Φ F hRR hdg hlen hW hpt hk H locs ls hH hl
  obtain ⟨hx, hb, hml, hown, hts, hr, hlk2, hK, hin, hbs, hKc⟩ := F
  have hG : GoodIn mj_GW (va_wsS (mj_own.getD μ.1 "") k μ'.2.2.2.2.2 (mj_ws μ')) := by
    intro w hw
    unfold va_wsS mj_ws at hw
    simp only [List.cons_append, List.nil_append, List.mem_cons] at hw
    rcases hw with rfl | rfl | rfl | rfl | hw
    · exact mj_good hlk
    · exact mj_good hi
    · exact mj_good hf.2.1
    · exact mj_good hf.1
    · exact mj_good hw
  have cw := va_cwS (R := R) (s := s) (args := args) (own := mj_own.getD μ.1 "") (index := k) (y := μ'.2.2.2.2.2) (bytes := μ'.2.2.1) (maxL := μ'.2.2.2.1) (ret := μ'.2.2.2.2.1) (ws := mj_ws μ') (rm := mj_rm d' 0 0) (mc := 0) (ms := 0) n hts hG rfl rfl rfl ⟨hf.2.2.2.1, hf.2.2.2.2, hn⟩ ⟨by show d' + 1 ≤ R.frames; omega, by show 8 + (μ'.2.2.2.1 + 11) + 64 * d' ≤ R.locals; have := hf.2.2.1; omega⟩
  have run := va_runS (l := l) (e := e) (below := below) (meth := meth) (cells := k0) (slots := n0) (locs := locs) (As := as.map (mj_v Ω)) (rest := rest.map (mj_v Ω)) (g := F0 m pc ls ((as.reverse ++ rest).map (mj_v Ω))) (H := H) ⟨hx, hb, hml, hown, hts⟩ (hM _ _ _ hpt) cw
    ⟨mj_blind, fun U hU hWm => ⟨rfl, by rw [hU]; exact hH.1, by rw [hU]; exact hH.2.1, by rw [hU]; exact Nat.le_trans hbs hH.2.2.1, va_K.moved hWm.alike hK, mj_Kc_warm hKc hWm (fun a h1 h2 => by rw [hU]; exact hH.2.2.2.1 a h1 h2)⟩⟩ rfl (by simpa using hlen) hl.1 (by simp) (by
      show 2 * 0 + _ ≤ 8
      have : ((rest.map (mj_v Ω)).map fun v => v.category) = rest.map (fun v => v.category) := by rw [List.map_map]; exact List.map_congr_left (fun v _ => mj_v_cat Ω v)
      rw [this]; omega) hdg ⟨hRR.2.2.1, hRR.2.2.2⟩
  exact mj_after run hH.2.2 hl hk
end MJE
/-! ===== memory behind the constructors; what is asked of a method; its soundness ===== -/
abbrev mk (I : Nat → Nat → Int32) (J : Nat → Nat → Int64) : mj_M := (mS0, mR0, I, J)
def mj_ck (a b : Nat) (M : mj_M) : Prop := a = b ∧ M.1 = mS0 ∧ M.2.1 = mR0
def mj_isk (M : mj_M) : Prop := M.1 = mS0 ∧ M.2.1 = mR0
theorem mj_isk_mk (I : Nat → Nat → Int32) (J : Nat → Nat → Int64) : mj_isk (mk I J) := ⟨rfl, rfl⟩
theorem mj_isk_of {M : mj_M} (h : mj_isk M) : M = mk M.2.2.1 M.2.2.2 := by
  obtain ⟨S, R, I, J⟩ := M
  obtain ⟨h2, h3⟩ := h
  simp only at h2 h3
  subst h2; subst h3
  rfl
/-- a cell of a fleet, of a course -/
def mj_isF (f : Nat) : Prop := f = 15 ∨ f = 30 ∨ f = 39 ∨ f = 48 ∨ f = 57 ∨ f = 66
def mj_isC (c : Nat) : Prop := c = 13 ∨ c = 26 ∨ c = 28
theorem mj_ck_mk (a : Nat) (I : Nat → Nat → Int32) (J : Nat → Nat → Int64) : mj_ck a a (mk I J) := ⟨rfl, rfl, rfl⟩
theorem mj_ck_of {a b : Nat} {M : mj_M} (h : mj_ck a b M) : a = b ∧ M = mk M.2.2.1 M.2.2.2 := by
  obtain ⟨S, R, I, J⟩ := M
  obtain ⟨h1, h2, h3⟩ := h
  simp only at h2 h3
  subst h2; subst h3
  exact ⟨h1, rfl⟩
def mj_Sd (μ : mj_m) (D : Nat) (pt : mj_PT) : Prop := ∀ (Ω : mj_Om) (l : Launch) (d : Nat), D ≤ d → ∀ as M Φ, pt as M Φ → mj_Met Ω l false μ d 0 0 as M Φ
def mj_Cs (μ : mj_m) (D : Nat) (cs : List (Nat × Nat × Nat × mj_PT)) : Prop := ∀ (Ω : mj_Om) (l : Launch) (d : Nat), D ≤ d → ∀ q ∈ cs, mj_Call Ω l false μ d q.1 q.2.1 q.2.2.1 q.2.2.2
def mj_Ok (μ : mj_m) : Prop := plainName μ.2.2.2.2.2.cls = true ∧ mj_own.getD μ.1 "" = μ.2.2.2.2.2.cls ∧ (μ.2.1 = true → μ.2.2.2.2.2.name = "<init>")
theorem mj_Cs0 {μ : mj_m} {D : Nat} : mj_Cs μ D [] := fun _ _ _ _ _ h => absurd h List.not_mem_nil
theorem mj_CsV {μ μ' : mj_m} {D D' ci k n : Nat} {pt : mj_PT} {q : vw_C} {cs : List (Nat × Nat × Nat × mj_PT)} (h : mj_Sd μ' D' pt) (hD : D' + 1 ≤ D) (hf : mj_mf μ') (hq : vwCl[ci]? = some q) (hcl : μ'.2.2.2.2.2.cls = q.1) (hi : Cond.instanceMethod μ'.2.2.2.2.2 ∈ mj_GW) (hs : Cond.selects q.1 μ'.2.2.2.2.2 μ'.2.2.2.2.2 ∈ mj_GW)
    (hn : mj_np μ' = some n) (hlk : Cond.methodLink (mj_own.getD μ.1 "") k μ'.2.2.2.2.2 ∈ mj_GW) (ht : mj_Cs μ D cs) : mj_Cs μ D ((k, 0, n + 1, mj_rcv ci pt) :: cs) := by
  intro Ω l d hd q' hq'
  rcases List.mem_cons.mp hq' with rfl | hq'
  · exact mj_callV (d' := D') (by omega) (h Ω l D' (Nat.le_refl _)) hf hq hcl hi hs hn hlk
  · exact ht Ω l d hd q' hq'
theorem mj_CsS {μ μ' : mj_m} {D D' k n : Nat} {pt : mj_PT} {cs : List (Nat × Nat × Nat × mj_PT)} (h : mj_Sd μ' D' pt) (hD : D' + 1 ≤ D) (hf : mj_mf μ') (hi : Cond.static μ'.2.2.2.2.2 ∈ mj_GW)
    (hn : mj_np μ' = some n) (hlk : Cond.methodLink (mj_own.getD μ.1 "") k μ'.2.2.2.2.2 ∈ mj_GW) (ht : mj_Cs μ D cs) : mj_Cs μ D ((k, 1, n, pt) :: cs) := by
  intro Ω l d hd q' hq'
  rcases List.mem_cons.mp hq' with rfl | hq'
  · exact mj_callS (d' := D') (by omega) (h Ω l D' (Nat.le_refl _)) hf hi hn hlk
  · exact ht Ω l d hd q' hq'
def mj_ptw (μ : mj_m) (P : List (Nat × Instr × Nat)) (cs : List (Nat × Nat × Nat × mj_PT)) (f : Nat) : mj_PT := fun as M Φ => mj_gd (decide ((mj_flat as).length ≤ μ.2.2.2.1)) (mj_wp μ P [] cs Φ (fun _ _ => False) f true 0 (mj_ent μ.2.2.2.1 as, [], M))
theorem mj_ptw_sd {μ : mj_m} {P : List (Nat × Instr × Nat)} {cs : List (Nat × Nat × Nat × mj_PT)} {f D : Nat} (hP : mj_pd μ.2.2.1 P) (ho : mj_Ok μ) (hcs : mj_Cs μ D cs) : mj_Sd μ D (mj_ptw μ P cs f) := by
  intro Ω l d hd as M Φ h
  obtain ⟨h1, h⟩ := mj_gd_iff.mp h
  exact mj_entry ho.1 ho.2.1 ho.2.2 (of_decide_eq_true h1) (mj_wp_ok hP (hcs Ω l d hd) (fun _ _ h => h.elim) f true 0 _ h)
theorem mj_blk {μ : mj_m} {P : List (Nat × Instr × Nat)} {cut : List (Nat × List Bool)} {cs : List (Nat × Nat × Nat × mj_PT)} {D d : Nat} {Ω : mj_Om} {l : Launch} {Φ : Option Value → mj_M → Prop} (hP : mj_pd μ.2.2.1 P) (hcs : mj_Cs μ D cs) (hd : D ≤ d) (f pc : Nat) (S : mj_S) (h : mj_wp μ P cut cs Φ (fun pc S => mj_G Ω l false μ d 0 0 Φ 0 0 pc S) f true pc S) : mj_G Ω l false μ d 0 0 Φ 0 0 pc S := mj_wp_ok hP (hcs Ω l d hd) (fun _ _ h => h) f true pc S h
theorem mj_Met_mono {Ω : mj_Om} {l : Launch} {al : Bool} {μ : mj_m} {d mc ms : Nat} {as : List Value} {M : mj_M} {Φ Φ' : Option Value → mj_M → Prop} (h : ∀ r M', Φ r M' → Φ' r M') (hM : mj_Met Ω l al μ d mc ms as M Φ) : mj_Met Ω l al μ d mc ms as M Φ' := by
  intro p e ha hc hk s m args below hf h1 h2 h3
  obtain ⟨k, o, g1, g2, g3, ⟨⟨r, M', e1, e2, e3⟩, hF⟩, hL⟩ := hM p e ha hc hk s m args below hf h1 h2 h3
  exact ⟨k, o, g1, g2, g3, ⟨⟨r, M', e1, h r M' e2, e3⟩, hF⟩, hL⟩
end
section
/-! ===== calls on a text; System.arraycopy ===== -/
def mj_rcS (pt : mj_PT) : mj_PT := fun as M Φ => match as with
  | .ref a :: _ => mj_gd (decide (1010 ≤ a ∧ a < 1013)) (pt as M Φ)
  | _ => False
def mj_uc (I : Nat → Nat → Int32) (b : Nat) (g : Nat → Int32) : Nat → Nat → Int32 := fun a k => if a = b then g k else I a k
def mj_cpB (sp dp n : Int32) (n0 n1 : Nat) : Bool := decide (0 ≤ sp) && decide (0 ≤ dp) && decide (0 ≤ n) && decide (sp.toNatClampNeg + n.toNatClampNeg ≤ n0) && decide (dp.toNatClampNeg + n.toNatClampNeg ≤ n1)
def mj_ptcp : mj_PT := fun as M Φ => match as with
  | [.ref a, .int sp, .ref b, .int dp, .int n] => match mj_sh M b with
    | some (0, n1) => match mj_sh M a with
      | some (0, n0) => mj_gd (mj_cpB sp dp n n0 n1) (Φ none (M.1, M.2.1, mj_uc M.2.2.1 b (va_cpy (M.2.2.1 a) (M.2.2.1 b) sp.toNatClampNeg dp.toNatClampNeg n.toNatClampNeg), M.2.2.2))
      | none => match mj_kc a with
        | some (0, xs) => mj_gd (mj_cpB sp dp n xs.length n1) (Φ none (M.1, M.2.1, mj_uc M.2.2.1 b (va_cpy (fun j => xs.getD j 0) (M.2.2.1 b) sp.toNatClampNeg dp.toNatClampNeg n.toNatClampNeg), M.2.2.2))
        | _ => False
      | _ => False
    | _ => False
  | _ => False
section MJX
variable {Ω : mj_Om} {l : Launch} {al : Bool} {μ : mj_m} {d : Nat}
theorem mj_callVS {μ' : mj_m} {d' k n : Nat} {pt : mj_PT} (hd : d' + 1 ≤ d) (hM : ∀ as M Φ, pt as M Φ → mj_Met Ω l al μ' d' 0 0 as M Φ) (hf : mj_mf μ') (hcl : μ'.2.2.2.2.2.cls = "java/lang/String") (hi : Cond.instanceMethod μ'.2.2.2.2.2 ∈ mj_GW) (hs : Cond.selects "java/lang/String" μ'.2.2.2.2.2 μ'.2.2.2.2.2 ∈ mj_GW)
    (hn : mj_np μ' = some n) (hlk : Cond.methodLink (mj_own.getD μ.1 "") k μ'.2.2.2.2.2 ∈ mj_GW) : mj_Call Ω l al μ d k 0 (n + 1) (mj_rcS pt) := by
  intro p e s m args below meth c Q R k0 n0 pc L as rest M Φ F hRR hdg hlen hW hpt hk H locs ls hH hl
  obtain ⟨hx, hb, hml, hown, hts, hr, hlk2, hK, hin, hbs, hKc⟩ := F
  simp only [mj_rcS] at hpt
  split at hpt
  · rename_i a tl
    obtain ⟨hdd, hpt⟩ := mj_gd_iff.mp hpt
    obtain ⟨h1, h2⟩ := of_decide_eq_true hdd
    obtain ⟨i, rfl⟩ : ∃ i : Nat, a = 1010 + i := ⟨a - 1010, (Nat.add_sub_cancel' h1).symm⟩
    have hi3 : i < mj_kS.length := Nat.lt_of_add_lt_add_left (n := 1010) h2
    obtain ⟨cell, c1, c2, c3, -⟩ := (hKc.2.1.2.2 i _ (List.getElem?_eq_getElem hi3)).1.kept hH.2.2.2.1
    have hqa : mj_q Ω (1010 + i) = Ω.2.2.2 (1010 + i) := by simp only [mj_q]; rw [if_neg (by omega)]
    have hG : GoodIn mj_GW (wsV (mj_own.getD μ.1 "") k "java/lang/String" μ'.2.2.2.2.2 (mj_ws μ')) := by
      intro w hw
      unfold wsV mj_ws at hw
      simp only [List.cons_append, List.nil_append, List.mem_cons] at hw
      rcases hw with rfl | rfl | rfl | rfl | rfl | hw
      · exact mj_good hlk
      · exact mj_good hi
      · exact mj_good hs
      · rw [← hcl]; exact mj_good hf.2.1
      · exact mj_good hf.1
      · exact mj_good hw
    have cw := cwV (R := R) (s := s) (args := args) (own := mj_own.getD μ.1 "") (C := "java/lang/String") (index := k) (y := μ'.2.2.2.2.2) (bytes := μ'.2.2.1) (maxL := μ'.2.2.2.1) (ret := μ'.2.2.2.2.1) (ws := mj_ws μ') (rm := mj_rm d' 0 0) (mc := 0) (ms := 0) n hts hG rfl rfl rfl ⟨hcl, hf.2.2.2.1, hf.2.2.2.2, hn⟩ ⟨by show d' + 1 ≤ R.frames; omega, by show 8 + (μ'.2.2.2.1 + 11) + 64 * d' ≤ R.locals; have := hf.2.2.1; omega⟩
    have run := va_runV (l := l) (e := e) (below := below) (meth := meth) (cells := k0) (slots := n0) (locs := locs) (As := tl.map (mj_v Ω)) (rest := rest.map (mj_v Ω)) (g := F0 m pc ls (((.ref (1010 + i) :: tl).reverse ++ rest).map (mj_v Ω))) (b := mj_q Ω (1010 + i)) (H := H) ⟨hx, hb, hml, hown, hts⟩ (hM _ _ _ hpt) cw
      ⟨mj_blind, ⟨cell, by rw [hqa]; exact c1, c2, c3⟩, fun U hU hWm => ⟨rfl, by rw [hU]; exact hH.1, by rw [hU]; exact hH.2.1, by rw [hU]; exact Nat.le_trans hbs hH.2.2.1, va_K.moved hWm.alike hK, mj_Kc_warm hKc hWm (fun a h1 h2 => by rw [hU]; exact hH.2.2.2.1 a h1 h2)⟩⟩ rfl (by simp at hlen ⊢; omega) hl.1 (by simp [mj_v]) (by
        show 2 * 0 + _ ≤ 8
        have : ((rest.map (mj_v Ω)).map fun v => v.category) = rest.map (fun v => v.category) := by rw [List.map_map]; exact List.map_congr_left (fun v _ => mj_v_cat Ω v)
        rw [this]; omega) hdg ⟨hRR.2.2.1, hRR.2.2.2⟩
    exact mj_after run hH.2.2 hl hk
  · exact hpt.elim
theorem mj_uc_ne {I : Nat → Nat → Int32} {b a : Nat} {g : Nat → Int32} (h : a ≠ b) : mj_uc I b g a = I a := by
  funext k
  simp [mj_uc, h]
theorem mj_uc_self {I : Nat → Nat → Int32} {b : Nat} {g : Nat → Int32} : mj_uc I b g b = g := by
  funext k
  simp [mj_uc]
theorem mj_cpB_ok {sp dp n : Int32} {n0 n1 : Nat} (h : mj_cpB sp dp n n0 n1 = true) : ¬ sp < 0 ∧ ¬ dp < 0 ∧ ¬ n < 0 ∧ sp.toNatClampNeg + n.toNatClampNeg ≤ n0 ∧ dp.toNatClampNeg + n.toNatClampNeg ≤ n1 := by
  simp only [mj_cpB, Bool.and_eq_true, decide_eq_true_eq] at h
  exact ⟨Int32.not_lt.mpr h.1.1.1.1, Int32.not_lt.mpr h.1.1.1.2, Int32.not_lt.mpr h.1.1.2, h.1.2, h.2⟩
/-- a copy out of a static array of ints -/
theorem mj_copyT {p : Program} {e : Env} {R : Room} {s : State} {m : MethodId} {args : Array Value} {below : List Frame} {meth : Method} {c : Code} {H : Heap} {locs : List Loc} {cells slots : Nat} {Q : State → Prop} {cc : ByteArray} {pc : Nat} {ls : Array Slot} {rest : List Value} {D : va_G} {cl : List vw_C} {A : Nat → Prop} {a : Nat} {tys : List (ClassId × FieldType)} {ws : va_W}
    (hexec : p.tables.exec = Jvm.exec) (hb : c.code = cc) (hml : c.maxLocals = ls.size) {own : String} {index : Nat} (hown : s.vm.findClass own = some m.cls) (hlink : (Cond.methodLink own index arraycopyName).before args s = true) (hnat : (Cond.native arraycopyName).before args s = true) (hstat : (Cond.static arraycopyName).before args s = true) (hini : (Cond.initialized "java/lang/System").before args s = true)
    (hK : va_K D cl tys s) (hP : va_P D cl ws H) (hD : va_D A ws) (hS : va_S A s.heap H locs) {b0 n0 : Nat} {f : Nat → Int32} (hX : va_T .int b0 n0 (fun j => .int (f j)) A s s.heap) (q1 t1 : Nat) {c1 : ClassId} {n1 : Nat} {g : Nat → Int32} (ha1 : ws[q1]? = some (a, .inl (c1, n1, .inl g))) (ht1 : tys[t1]? = some (c1, .int))
    {sp dp n : Int32} (h1 : ¬ sp < 0) (h2 : ¬ dp < 0) (h3 : ¬ n < 0) (h4 : sp.toNatClampNeg + n.toNatClampNeg ≤ n0) (h5 : dp.toNatClampNeg + n.toNatClampNeg ≤ n1)
    (hframes : 1 ≤ R.frames) (hlocals : (rest.map fun v => v.category).sum + (nativeFrameWords "java/lang/System" "arraycopy" 5 + 11) ≤ R.locals) (hdg : decode cc pc = .ok (.invokestatic index, 3))
    (kk : ∀ (H1 : Heap) (locs1 : List Loc), va_P D cl (ws.set q1 (a, .inl (c1, n1, .inl (va_cpy f g sp.toNatClampNeg dp.toNatClampNeg n.toNatClampNeg)))) H1 → va_S A s.heap H1 locs1 → W p l e R s m args below meth c H1 locs1 cells slots Q (F0 m (pc + 3) ls rest)) : W p l e R s m args below meth c H locs cells slots Q (F0 m pc ls (.int n :: .int dp :: .ref a :: .int sp :: .ref b0 :: rest)) := by
  have nn : ∀ z : Int32, ¬ z < 0 → z.toInt = (z.toNatClampNeg : Int) := by
    intro z hz
    have hz0 : (0 : Int) ≤ z.toInt := by simpa using Int32.le_iff_toInt_le.mp (Int32.not_lt.mp hz)
    show z.toInt = ((z.toInt.toNat : Nat) : Int)
    omega
  intro T hT X
  obtain ⟨scr, hs1, hs2, hs3, hs4, -, hs5, hs7⟩ := hX
  have hc0 : H[b0]? = some scr := by rw [hS.2.1 b0 (Array.getElem?_eq_some_iff.mp hs1).1 hs7]; exact hs1
  have hc1 : H[a]? = some (vp_cell c1 (n1, .inl g)) := hP q1 _ ha1
  obtain ⟨hs6, k0, hk0, cm0, hkk0⟩ := hs2
  obtain ⟨-, k1, hk1, cm1, hkk1⟩ := (hK.2 t1 _ ht1).1 n1 (fun j => .int (g j))
  obtain ⟨vm', X', step⟩ := X.arraycopy hexec hown hlink hnat hstat hini (src := b0) (dst := a) (cs := scr) (cd := vp_cell c1 (n1, .inl g)) (srcPos := sp) (destPos := dp) (n := n) (by rw [hT]; exact hc0) (by rw [hT]; exact hc1)
    hs6 (fun _ h => by cases h) hs3 (fun h => by cases h) hk0 hk1 hkk0 hkk1 (by simp [refKind]) h1 h2 h3
    (by rw [nn sp h1, nn n h3]; omega)
    (by rw [nn dp h2, nn n h3]; show ¬ _ > ((arrV c1 n1 (fun j => .int (g j))).slots.size : Int); rw [arrV_size]; omega)
    (fun vm₁ _ i hi => by
      have e : scr.slots.getD (sp.toNatClampNeg + i) .null = .int (f (sp.toNatClampNeg + i)) := by
        rw [Array.getD_eq_getD_getElem?, hs5 _ (by omega)]
        rfl
      refine ⟨?_, ?_⟩
      · rw [e]
        rfl
      · rw [e]
        exact trivial)
    (g := F0 m pc ls (.int n :: .int dp :: .ref a :: .int sp :: .ref b0 :: rest)) rfl (by rw [hml]) (rest := rest) rfl (by rw [hb]; exact hdg) hframes (by show 2 * 0 + _ + _ ≤ _; omega)
  have e1 : copied scr (vp_cell c1 (n1, .inl g)) sp dp n = vp_cell c1 (n1, .inl (va_cpy f g sp.toNatClampNeg dp.toNatClampNeg n.toNatClampNeg)) := va_copiedX (fun z => .int z) scr c1 f g hs5 h4
  rw [e1] at X' step
  have hl : a < H.size := (Array.getElem?_eq_some_iff.mp hc1).1
  have hheap : ((T.setVm vm').setCell a (vp_cell c1 (n1, .inl (va_cpy f g sp.toNatClampNeg dp.toNatClampNeg n.toNatClampNeg)))).heap = H.setIfInBounds a (vp_cell c1 (n1, .inl (va_cpy f g sp.toNatClampNeg dp.toNatClampNeg n.toNatClampNeg))) := by rw [← hT]; rfl
  have oq : ∀ q : Nat, q ≠ a → (H.setIfInBounds a (vp_cell c1 (n1, .inl (va_cpy f g sp.toNatClampNeg dp.toNatClampNeg n.toNatClampNeg))))[q]? = H[q]? := fun q hq => by simp [Array.getElem?_setIfInBounds, Ne.symm hq]
  obtain ⟨t, a1, b1⟩ := kk _ _ (hP.set hD ha1 (show (H.setIfInBounds a _)[a]? = some _ by simp [Array.getElem?_setIfInBounds, hl]) oq) ⟨by simp; exact hS.1, fun q g1 g2 => by
      rw [oq q (fun e => g2 (by rw [e]; exact hD.2 q1 _ ha1))]
      exact hS.2.1 q g1 g2, fun q hq => by
      rcases List.mem_append.mp hq with h | h
      · exact hS.2.2 q h
      · obtain ⟨z, -, hz⟩ := List.mem_map.mp h
        rw [← hz]
        exact hD.2 q1 _ ha1⟩ _ hheap X'
  exact ⟨t, step t a1, b1⟩
theorem mj_callCp {k : Nat} (hd : 2 ≤ d) (hlk : Cond.methodLink (mj_own.getD μ.1 "") k arraycopyName ∈ mj_GW) : mj_Call Ω l false μ d k 1 5 mj_ptcp := by
  intro p e s m args below meth c Q R k0 n0 pc L as rest M Φ F hRR hdg hlen hW hpt hk H locs ls hH hl
  obtain ⟨hx, hb, hml, hown, hts, hr, hlk2, hK, hin, hbs, hKc⟩ := F
  have hrm : ((rest.map (mj_v Ω)).map fun v => v.category).sum + (nativeFrameWords "java/lang/System" "arraycopy" 5 + 11) ≤ R.locals := by
    have : ((rest.map (mj_v Ω)).map fun v => v.category) = rest.map (fun v => v.category) := by rw [List.map_map]; exact List.map_congr_left (fun v _ => mj_v_cat Ω v)
    rw [this]
    have h9 : nativeFrameWords "java/lang/System" "arraycopy" 5 ≤ 60 := by decide +kernel
    omega
  simp only [mj_ptcp] at hpt
  split at hpt
  · rename_i a sp b dp n
    have hst : (([Value.ref a, .int sp, .ref b, .int dp, .int n].reverse ++ rest).map (mj_v Ω)) = .int n :: .int dp :: .ref (mj_q Ω b) :: .int sp :: .ref (mj_q Ω a) :: rest.map (mj_v Ω) := by simp [mj_v]
    show W p l e R s m args below meth c H locs k0 n0 Q (F0 m pc ls (([Value.ref a, .int sp, .ref b, .int dp, .int n].reverse ++ rest).map (mj_v Ω)))
    rw [hst]
    split at hpt
    · rename_i n1 hshb
      have heb := mj_w_at (Ω := Ω) hshb
      split at hpt
      · rename_i n0 hsha
        have hea := mj_w_at (Ω := Ω) hsha
        obtain ⟨h0, hpt⟩ := mj_gd_iff.mp hpt
        obtain ⟨h1, h2, h3, h4, h5⟩ := mj_cpB_ok h0
        refine va_copyi (A := mj_A Ω) (H0 := s.heap) hx hb (by rw [hml]; exact hl.1.symm) hown (hts _ hlk) (hts _ mj_cpN) (hts _ mj_cpS) (hts _ mj_cpI) hK hH.1 mj_D hH.2.2 a b 0 0 hea heb rfl rfl rfl h1 h2 h3 h4 h5 (fun _ _ => rfl) (by omega) hrm hdg (fun H1 locs1 hP hD hS => ?_)
        have hw := mj_w_set (Ω := Ω) (M' := (M.1, M.2.1, mj_uc M.2.2.1 b (va_cpy (M.2.2.1 a) (M.2.2.1 b) sp.toNatClampNeg dp.toNatClampNeg n.toNatClampNeg), M.2.2.2)) hshb rfl (fun q s hq _ => mj_cell_cong (mj_uc_ne hq) rfl (fun j => rfl))
        have hc : mj_cell Ω (M.1, M.2.1, mj_uc M.2.2.1 b (va_cpy (M.2.2.1 a) (M.2.2.1 b) sp.toNatClampNeg dp.toNatClampNeg n.toNatClampNeg), M.2.2.2) b (0, n1) = .inl (Ω.2.1 0, n1, .inl (va_cpy (M.2.2.1 a) (M.2.2.1 b) sp.toNatClampNeg dp.toNatClampNeg n.toNatClampNeg)) := by
          simp only [mj_cell, mj_uc_self]
        rw [hc] at hw
        rw [hw] at hP
        exact hk none _ hpt H1 locs1 ls ⟨hP, fun h => (by cases h), hS⟩ hl
      · split at hpt
        · rename_i xs hkc
          obtain ⟨hqa, hT⟩ := mj_kc_T hKc hkc
          rcases hT with ⟨-, hT⟩ | ⟨hT, -⟩
          · obtain ⟨h0, hpt⟩ := mj_gd_iff.mp hpt
            obtain ⟨h1, h2, h3, h4, h5⟩ := mj_cpB_ok h0
            rw [hqa]
            refine mj_copyT (A := mj_A Ω) (f := fun j => xs.getD j 0) hx hb (by rw [hml]; exact hl.1.symm) hown (hts _ hlk) (hts _ mj_cpN) (hts _ mj_cpS) (hts _ mj_cpI) hK hH.1 mj_D hH.2.2 hT b 0 heb rfl h1 h2 h3 h4 h5 (by omega) hrm hdg (fun H1 locs1 hP hS => ?_)
            have hw := mj_w_set (Ω := Ω) (M' := (M.1, M.2.1, mj_uc M.2.2.1 b (va_cpy (fun j => xs.getD j 0) (M.2.2.1 b) sp.toNatClampNeg dp.toNatClampNeg n.toNatClampNeg), M.2.2.2)) hshb rfl (fun q s hq _ => mj_cell_cong (mj_uc_ne hq) rfl (fun j => rfl))
            have hc : mj_cell Ω (M.1, M.2.1, mj_uc M.2.2.1 b (va_cpy (fun j => xs.getD j 0) (M.2.2.1 b) sp.toNatClampNeg dp.toNatClampNeg n.toNatClampNeg), M.2.2.2) b (0, n1) = .inl (Ω.2.1 0, n1, .inl (va_cpy (fun j => xs.getD j 0) (M.2.2.1 b) sp.toNatClampNeg dp.toNatClampNeg n.toNatClampNeg)) := by
              simp only [mj_cell, mj_uc_self]
            rw [hc] at hw
            rw [hw] at hP
            exact hk none _ hpt H1 locs1 ls ⟨hP, fun h => (by cases h), hS⟩ hl
          · cases hT
        · exact hpt.elim
      · exact hpt.elim
    · exact hpt.elim
  · exact hpt.elim
end MJX
theorem mj_CsVS {μ μ' : mj_m} {D D' k n : Nat} {pt : mj_PT} {cs : List (Nat × Nat × Nat × mj_PT)} (h : mj_Sd μ' D' pt) (hD : D' + 1 ≤ D) (hf : mj_mf μ') (hcl : μ'.2.2.2.2.2.cls = "java/lang/String") (hi : Cond.instanceMethod μ'.2.2.2.2.2 ∈ mj_GW) (hs : Cond.selects "java/lang/String" μ'.2.2.2.2.2 μ'.2.2.2.2.2 ∈ mj_GW)
    (hn : mj_np μ' = some n) (hlk : Cond.methodLink (mj_own.getD μ.1 "") k μ'.2.2.2.2.2 ∈ mj_GW) (ht : mj_Cs μ D cs) : mj_Cs μ D ((k, 0, n + 1, mj_rcS pt) :: cs) := by
  intro Ω l d hd q' hq'
  rcases List.mem_cons.mp hq' with rfl | hq'
  · exact mj_callVS (d' := D') (by omega) (h Ω l D' (Nat.le_refl _)) hf hcl hi hs hn hlk
  · exact ht Ω l d hd q' hq'
theorem mj_CsCp {μ : mj_m} {D k : Nat} {cs : List (Nat × Nat × Nat × mj_PT)} (hD : 2 ≤ D) (hlk : Cond.methodLink (mj_own.getD μ.1 "") k arraycopyName ∈ mj_GW) (ht : mj_Cs μ D cs) : mj_Cs μ D ((k, 1, 5, mj_ptcp) :: cs) := by
  intro Ω l d hd q' hq'
  rcases List.mem_cons.mp hq' with rfl | hq'
  · exact mj_callCp (by omega) hlk
  · exact ht Ω l d hd q' hq'
end
section
/-! ===== making: objects, arrays; constructors' calls ===== -/
theorem vr_outer (c : ClassId) (N h0 : Nat) : ∀ i : Nat, Jvm.Free.Multi.outerC c N h0 i = arrV c N (fun j => va_rf (if j < i then some (h0 + 1 + j) else none))
  | 0 => by
    show ({ cls := c, slots := Array.replicate N .null, vm := .none } : Cell) = _
    rw [arrV_new]
    refine congrArg (arrV c N) (funext fun j => ?_)
    simp [va_rf]
  | i + 1 => by
    show (Jvm.Free.Multi.outerC c N h0 i).setSlot i (.ref (h0 + 1 + i)) = _
    rw [vr_outer c N h0 i, arrV_store]
    refine congrArg (arrV c N) (funext fun j => ?_)
    by_cases e : j = i
    · subst e
      simp [updV, va_rf]
    · by_cases h : j < i
      · simp [updV, e, h, Nat.lt_succ_of_lt h]
      · simp [updV, e, h, show ¬ j < i + 1 by omega]
section MJN
variable {p : Program} {l : Launch} {e : Env} {R : Room} {s : State} {m : MethodId} {args : Array Value} {below : List Frame} {meth : Method} {c : Code} {cells slots : Nat} {Q : State → Prop}
variable {Ω : mj_Om} {o : Nat} {ini : Bool} {cc : ByteArray} {nL pc : Nat} {ret : Option FieldType} {L : List (Option Value)} {st : List Value} {M : mj_M}
theorem mj_w_push {sh : Nat × Nat} : mj_w Ω (M.1 ++ [sh], M.2) = mj_w Ω M ++ [(Ω.2.2.1 + M.1.length, mj_cell Ω (M.1 ++ [sh], M.2) M.1.length sh)] := by
  unfold mj_w
  rw [List.mapIdx_concat]
  congr 1
theorem mj_q_len (h : M.1.length < 1000) : mj_q Ω M.1.length = Ω.2.2.1 + M.1.length := by simp [mj_q, h]
/-- a new object -/
theorem mj_new_ok (F : mj_F Ω p s m args meth c o ini cc nL ret) {idx ci : Nat} {q : vw_C} (hdg : decode cc pc = .ok (.new idx, 3)) (hq : vwCl[ci]? = some q) (hcl : Cond.classLink (mj_own.getD o "") idx q.1 ∈ mj_GW) (hins : Cond.instantiable q.1 q.2.2 ∈ mj_GW) (hini : Cond.initialized q.1 ∈ mj_GW)
    (hlen : M.1.length < 1000) (hI : ∀ k, M.2.2.1 M.1.length k = 0) (hJ : ∀ k, M.2.2.2 M.1.length k = 0) (hR : ∀ k, mj_rf M M.1.length k = none) (hc : cells + 1 ≤ R.cells) (hs : slots + q.2.2 ≤ R.slots)
    (hk : mj_Wg Ω true nL p l e R s m args below meth c (cells + 1) (slots + q.2.2) Q (pc + 3) (L, .ref M.1.length :: st, M.1 ++ [(ci + 4, 0)], M.2)) : mj_Wg Ω true nL p l e R s m args below meth c cells slots Q pc (L, st, M) := by
  intro H locs ls hH hl
  obtain ⟨hx, hb, hml, hown, hts, hr, hlk, hK, hin, hbs, hKc⟩ := F
  have hC := mj_cls hq
  have hsz := hH.2.1 rfl
  have hKn := hK.1 ci _ hq
  have hty : ∀ j, j < q.2.2 → parseFieldDescriptor (q.2.1 j).2.2.1 = some ((parseFieldDescriptor (q.2.1 j).2.2.1).getD .int) := by
    intro j hj
    have h4 := (hC.2.2.1 j hj).1
    cases hp : parseFieldDescriptor (q.2.1 j).2.2.1 with
    | some ty => rfl
    | none =>
      rw [hp] at h4
      simp only [mj_ftOk] at h4
      split at h4 <;> first | (rename_i hz; cases hz; done) | cases h4
  have hfs : ∀ j, j < q.2.2 → defaultValue ((parseFieldDescriptor (q.2.1 j).2.2.1).getD .int) = vp_V (mj_fs Ω (M.1 ++ [(ci + 4, 0)], M.2) M.1.length ci) j := by
    intro j hj
    have hjl : j < (mj_kds ci).length := by rw [hC.2.1]; exact hj
    have h4 := (hC.2.2.1 j hj).1
    rw [hty j hj] at h4
    have h5 := mj_fs_at (Ω := Ω) (M := (M.1 ++ [(ci + 4, 0)], M.2)) (a := M.1.length) hjl
    have h6 : vp_V (mj_fs Ω (M.1 ++ [(ci + 4, 0)], M.2) M.1.length ci) j = mj_v Ω (mj_fv (M.1 ++ [(ci + 4, 0)], M.2) M.1.length ((mj_kds ci).getD j 0) j) := by
      simp only [vp_V, List.getD_eq_getElem?_getD, h5, Option.getD_some]
    rw [h6]
    revert h4
    generalize (parseFieldDescriptor (q.2.1 j).2.2.1).getD .int = ty
    intro h4
    have h9 : (mj_kds ci).getD j 9 = (mj_kds ci).getD j 0 := (mj_kd9 rfl hjl).symm
    rw [h9] at h4
    generalize (mj_kds ci).getD j 0 = kd at h4 ⊢
    have hr0 : mj_rf (M.1 ++ [(ci + 4, 0)], M.2) M.1.length j = none := hR j
    unfold mj_ftOk at h4
    split at h4
    · rename_i hz; cases hz
      simp only [mj_fv, mj_v, hI]; rfl
    · rename_i hz; cases hz
      simp only [mj_fv, mj_v, hI]; rfl
    · rename_i hz; cases hz
      simp only [mj_fv, mj_v, hJ]; rfl
    · rename_i hz; cases hz
      simp only [mj_fv, hr0, mj_rv, mj_v]; rfl
    · rename_i hz; cases hz
      simp only [mj_fv, hr0, mj_rv, mj_v]; rfl
    · cases h4
  refine W.newcK hx hb hown (hts _ hcl) (hts _ hins) (hts _ hini) rfl hdg hc hs hKn.2.1 rfl fun H1 kC hkC e1 z1 o1 => ?_
  have hb1 := u_born (fun j => (parseFieldDescriptor (q.2.1 j).2.2.1).getD .int) (ws := mj_GW) hts hC.1 hKn hkC e1 hty
  have hP : va_P Ω.1 vwCl (mj_w Ω (M.1 ++ [(ci + 4, 0)], M.2)) H1 := by
    rw [mj_w_push]
    refine (hH.1.kept (fun k x hx => o1 x.1 ((hH.1 k x hx).lt))).app (fun k x hx => ?_)
    have hz : k < 1 := (List.getElem?_eq_some_iff.mp hx).1
    rw [show k = 0 by omega] at hx
    cases hx
    rw [← hsz]
    exact ⟨_, hq, hb1.to hfs⟩
  have k9 := hk H1 locs ls ⟨hP, fun _ => by rw [z1, hsz, List.length_append]; rfl, ⟨Nat.le_trans hH.2.2.1 (by rw [z1]; omega), fun x h1 h2 => (o1 x (Nat.lt_of_lt_of_le h1 hH.2.2.1)).trans (hH.2.2.2.1 x h1 h2), hH.2.2.2.2⟩⟩ hl
  rw [List.map_cons] at k9
  simp only [mj_v, mj_q_len hlen] at k9
  rw [← hsz] at k9
  exact k9
def mj_aty : Nat → ArrayType
  | 0 => .int
  | 1 => .boolean
  | _ => .long
/-- a new array of ints, booleans, longs -/
theorem mj_newa_ok (F : mj_F Ω p s m args meth c o ini cc nL ret) {t N : Nat} {n : Int32} (ht : t < 3) (hdg : decode cc pc = .ok (.newarray (mj_aty t), 2)) (harr : Cond.arrayClass (newarray.typeOf (mj_aty t)) ∈ mj_GW) (hn : ¬ n < 0) (hN : n.toNatClampNeg = N) (hN2 : N ≤ 10000)
    (hlen : M.1.length < 1000) (hI : ∀ k, M.2.2.1 M.1.length k = 0) (hJ : ∀ k, M.2.2.2 M.1.length k = 0) (hc : cells + 1 ≤ R.cells) (hs : slots + N ≤ R.slots)
    (hk : mj_Wg Ω true nL p l e R s m args below meth c (cells + 1) (slots + N) Q (pc + 2) (L, .ref M.1.length :: st, M.1 ++ [(t, N)], M.2)) : mj_Wg Ω true nL p l e R s m args below meth c cells slots Q pc (L, .int n :: st, M) := by
  intro H locs ls hH hl
  obtain ⟨hx, hb, hml, hown, hts, hr, hlk, hK, hin, hbs, hKc⟩ := F
  have hsz := hH.2.1 rfl
  refine va_newaK hx hb (hts _ harr) rfl hdg rfl hn hN (by
    have : componentBytes (newarray.typeOf (mj_aty t)) ≤ 8 := by
      match t, ht with
      | 0, _ => decide
      | 1, _ => decide
      | 2, _ => decide
    calc N * componentBytes (newarray.typeOf (mj_aty t)) ≤ 10000 * 8 := Nat.mul_le_mul hN2 this
      _ ≤ 536870912 := by decide) hc hs rfl fun H1 cA e1 z1 o1 hAr hNm => ?_
  have hI0 : M.2.2.1 M.1.length = fun _ => 0 := funext hI
  have hJ0 : M.2.2.2 M.1.length = fun _ => 0 := funext hJ
  have hcell : va_at Ω.1 vwCl (Ω.2.2.1 + M.1.length, mj_cell Ω (M.1 ++ [(t, N)], M.2) M.1.length (t, N)) H1 := by
    rw [← hsz]
    match t, ht with
    | 0, _ =>
      have hcA : cA = Ω.2.1 0 := Option.some.inj (hNm.symm.trans (hK.2 0 _ rfl).2)
      show H1[H.size]? = some (vp_cell (Ω.2.1 0) (N, .inl (M.2.2.1 M.1.length)))
      rw [hI0, vp_cell_i, ← hcA]
      exact e1
    | 1, _ =>
      have hcA : cA = Ω.2.1 1 := Option.some.inj (hNm.symm.trans (hK.2 1 _ rfl).2)
      show H1[H.size]? = some (vp_cell (Ω.2.1 1) (N, .inl (M.2.2.1 M.1.length)))
      rw [hI0, vp_cell_i, ← hcA]
      exact e1
    | 2, _ =>
      have hcA : cA = Ω.2.1 2 := Option.some.inj (hNm.symm.trans (hK.2 2 _ rfl).2)
      show H1[H.size]? = some (vp_cell (Ω.2.1 2) (N, .inr (.inl (M.2.2.2 M.1.length))))
      rw [hJ0, vp_cell_l, ← hcA]
      exact e1
  have hP : va_P Ω.1 vwCl (mj_w Ω (M.1 ++ [(t, N)], M.2)) H1 := by
    rw [mj_w_push]
    refine (hH.1.kept (fun k x hx => o1 x.1 ((hH.1 k x hx).lt))).app (fun k x hx => ?_)
    have hz : k < 1 := (List.getElem?_eq_some_iff.mp hx).1
    rw [show k = 0 by omega] at hx
    cases hx
    exact hcell
  have k9 := hk H1 locs ls ⟨hP, fun _ => by rw [z1, hsz, List.length_append]; rfl, ⟨Nat.le_trans hH.2.2.1 (by rw [z1]; omega), fun x h1 h2 => (o1 x (Nat.lt_of_lt_of_le h1 hH.2.2.1)).trans (hH.2.2.2.1 x h1 h2), hH.2.2.2.2⟩⟩ hl
  rw [List.map_cons] at k9
  simp only [mj_v, mj_q_len hlen] at k9
  rw [← hsz] at k9
  exact k9
/-- Object's constructor -/
theorem mj_obj_ok (F : mj_F Ω p s m args meth c o ini cc nL ret) {idx a : Nat} {al : Bool} (hdg : decode cc pc = .ok (.invokespecial idx, 3)) (hlk : Cond.methodLink (mj_own.getD o "") idx Lib.objectInit ∈ mj_GW) (hi : Cond.instanceMethod Lib.objectInit ∈ mj_GW) (hcd : Cond.code Lib.objectInit ⟨#[0xb1]⟩ 1 none ∈ mj_GW) (hf : 1 ≤ R.frames) (hlo : (st.map (fun v => v.category)).sum + 12 ≤ R.locals)
    (hk : mj_Wg Ω al nL p l e R s m args below meth c cells slots Q (pc + 3) (L, st, M)) : mj_Wg Ω al nL p l e R s m args below meth c cells slots Q pc (L, .ref a :: st, M) := by
  intro H locs ls hH hl
  obtain ⟨hx, hb, hml, hown, hts, hr, hlk2, hK, hin, hbs, hKc⟩ := F
  refine W.objInit hx hb hown (hts _ hlk) (hts _ hi) (hts _ hcd) rfl (by rw [hml]; exact hl.1) (a := mj_q Ω a) (rest := st.map (mj_v Ω)) rfl hdg hf (by
    show 2 * 0 + _ + 12 ≤ _
    have : ((st.map (mj_v Ω)).map fun v => v.category) = st.map (fun v => v.category) := by rw [List.map_map]; exact List.map_congr_left (fun v _ => mj_v_cat Ω v)
    rw [this]; omega) ?_
  exact hk H locs ls hH hl
/-- the words that a constructor's call asks, by a link of its own or of a nest mate's -/
theorem mj_ctor_ok (F : mj_F Ω p s m args meth c o ini cc nL ret) {μ' : mj_m} {d' mc ms idx a n : Nat} {as : List Value} {Φ : Option Value → mj_M → Prop} {host : String} (hdg : decode cc pc = .ok (.invokespecial idx, 3)) (hM : mj_Met Ω l true μ' d' mc ms (.ref a :: as) M Φ) (hf : mj_mf μ') (hy1 : μ'.2.2.2.2.2.name = "<init>") (hret : μ'.2.2.2.2.1 = none) (hi : Cond.instanceMethod μ'.2.2.2.2.2 ∈ mj_GW)
    (hn : mj_np μ' = some n) (hlen : as.length = n) (hlk : Cond.methodLink (mj_own.getD o "") idx μ'.2.2.2.2.2 ∈ mj_GW ∨ Cond.methodLinkNest (mj_own.getD o "") idx μ'.2.2.2.2.2 host ∈ mj_NW) (hR : d' + 1 ≤ R.frames ∧ 64 * (d' + 1) ≤ R.locals) (hcs : cells + mc ≤ R.cells ∧ slots + ms ≤ R.slots) (hW : (st.map (fun v => v.category)).sum ≤ 8)
    (hk : ∀ r M', Φ r M' → mj_Wg Ω true nL p l e R s m args below meth c (cells + mc) (slots + ms) Q (pc + 3) (L, r.toList ++ st, M')) : mj_Wg Ω true nL p l e R s m args below meth c cells slots Q pc (L, as.reverse ++ .ref a :: st, M) := by
  intro H locs ls hH hl
  obtain ⟨hx, hb, hml, hown, hts, hr, hlk2, hK, hin, hbs, hKc⟩ := F
  have hG : GoodIn mj_GW (mj_ws μ') := by
    intro w hw
    unfold mj_ws at hw
    rcases List.mem_cons.mp hw with rfl | hw
    · exact mj_good hf.1
    · exact mj_good hw
  have hws : mj_ws μ' = Cond.code μ'.2.2.2.2.2 μ'.2.2.1 μ'.2.2.2.1 none :: mj_GW := by unfold mj_ws; rw [hret]
  have hrest : 2 * 0 + ((st.map (mj_v Ω)).map fun v => v.category).sum ≤ 8 := by
    have : ((st.map (mj_v Ω)).map fun v => v.category) = st.map (fun v => v.category) := by rw [List.map_map]; exact List.map_congr_left (fun v _ => mj_v_cat Ω v)
    rw [this]; omega
  have hRR : (mj_rm d' mc ms).frames + 1 ≤ R.frames ∧ 8 + (μ'.2.2.2.1 + 11) + (mj_rm d' mc ms).locals ≤ R.locals := ⟨hR.1, by show 8 + (μ'.2.2.2.1 + 11) + 64 * d' ≤ R.locals; have := hf.2.2.1; have := hR.2; omega⟩
  have hpre : PreS s H (mj_Pc Ω true (.ref a :: as) M) ((.ref a :: as).map (mj_v Ω)) := ⟨mj_blind, fun U hU hWm => ⟨rfl, by rw [hU]; exact hH.1, by rw [hU]; exact hH.2.1, by rw [hU]; exact Nat.le_trans hbs hH.2.2.1, va_K.moved hWm.alike hK, mj_Kc_warm hKc hWm (fun a h1 h2 => by rw [hU]; exact hH.2.2.2.1 a h1 h2)⟩⟩
  rcases hlk with hlk | hlk
  · have cw := cwI (R := R) (s := s) (args := args) (own := mj_own.getD o "") (index := idx) (y := μ'.2.2.2.2.2) (bytes := μ'.2.2.1) (maxL := μ'.2.2.2.1) (ws := mj_ws μ') (rm := mj_rm d' mc ms) (mc := mc) (ms := ms) n hts hG hws rfl rfl (hts _ hf.2.1) (hts _ hlk) (hts _ hi) hy1 ⟨hf.2.2.2.1, hf.2.2.2.2, hn⟩ hRR
    have run := va_runI (l := l) (e := e) (below := below) (meth := meth) (cells := cells) (slots := slots) (locs := locs) (As := as.map (mj_v Ω)) (rest := st.map (mj_v Ω)) (g := F0 m pc ls ((as.reverse ++ .ref a :: st).map (mj_v Ω))) (b := mj_q Ω a) (H := H) ⟨hx, hb, hml, hown, hts⟩ hM cw hpre rfl (by simpa using hlen) hl.1 (by simp [mj_v]) hrest hdg hcs
    exact mj_after run hH.2.2 hl hk
  · have cn := va_cnB (R := R) (s := s) (args := args) (own := mj_own.getD o "") (host := host) (index := idx) (y := μ'.2.2.2.2.2) (bytes := μ'.2.2.1) (maxL := μ'.2.2.2.1) (ret := none) (ws := mj_ws μ') (rm := mj_rm d' mc ms) (mc := mc) (ms := ms) n hts hG hws rfl rfl (hKc.1 _ hlk) (hts _ hf.2.1) ⟨hf.2.2.2.1, hf.2.2.2.2, hn⟩ hRR
    have run := va_runIN (l := l) (e := e) (below := below) (meth := meth) (cells := cells) (slots := slots) (locs := locs) (As := as.map (mj_v Ω)) (rest := st.map (mj_v Ω)) (g := F0 m pc ls ((as.reverse ++ .ref a :: st).map (mj_v Ω))) (b := mj_q Ω a) (H := H) ⟨hx, hb, hml, hown, hts⟩ hM ⟨cn, hy1, hts _ hi⟩ hpre rfl (by simpa using hlen) hl.1 (by simp [mj_v]) hrest hdg hcs
    exact mj_after run hH.2.2 hl hk
/-- int[n][k] -/
theorem mj_mna_ok (F : mj_F Ω p s m args meth c o ini cc nL ret) {idx N K : Nat} {n k : Int32} (hdg : decode cc pc = .ok (.multianewarray idx 2, 4)) (hcl : Cond.classLink (mj_own.getD o "") idx ("[" ++ (FieldType.array .int).toString) ∈ mj_GW) (hov : Cond.arrayOver (.array .int) ∈ mj_NW) (harr : Cond.arrayClass .int ∈ mj_GW) (hn : ¬ n < 0) (hk0 : ¬ k < 0) (hN : n.toNatClampNeg = N) (hKK : k.toNatClampNeg = K) (hN2 : N ≤ 100) (hK2 : K ≤ 1000)
    (hlen : M.1.length + N + 1 < 1000) (hI : ∀ j b, j ≤ N → M.2.2.1 (M.1.length + j) b = 0) (hR : ∀ b, mj_rf M M.1.length b = none) (hR2 : ∀ b, mj_rf (M.1, (List.range N).map (fun j => ((M.1.length, j), M.1.length + 1 + j)) ++ M.2.1, M.2.2) M.1.length b = if b < N then some (M.1.length + 1 + b) else none) (hR3 : ∀ a b, a ≠ M.1.length → mj_rf (M.1, (List.range N).map (fun j => ((M.1.length, j), M.1.length + 1 + j)) ++ M.2.1, M.2.2) a b = mj_rf M a b) (hc : cells + (1 + N) ≤ R.cells) (hs : slots + (N + N * K) ≤ R.slots)
    (hk : mj_Wg Ω true nL p l e R s m args below meth c (cells + 1 + N) (slots + N + N * K) Q (pc + 4) (L, .ref M.1.length :: st, M.1 ++ (3, N) :: List.replicate N (0, K), (List.range N).map (fun j => ((M.1.length, j), M.1.length + 1 + j)) ++ M.2.1, M.2.2)) : mj_Wg Ω true nL p l e R s m args below meth c cells slots Q pc (L, .int k :: .int n :: st, M) := by
  intro H locs ls hH hl
  obtain ⟨hx, hb, hml, hown, hts, hr, hlk, hK, hin, hbs, hKc⟩ := F
  have hsz : H.size = Ω.2.2.1 + M.1.length := hH.2.1 rfl
  subst hN
  subst hKK
  intro T hT Xs
  obtain ⟨vm₁, cA, comp, -, fA, fC, hO, -, X', step⟩ := Xs.multianewarray2F hx hown (hts _ hcl) (show (Cond.arrayOver (.array .int)).before args s = true from hKc.1 _ hov) (hts _ harr) (g := F0 m pc ls (.int k :: .int n :: st.map (mj_v Ω))) rfl (by rw [hb]; exact hdg) rfl hn hk0 (by omega) (by
    show k.toNatClampNeg * 4 ≤ 536870912
    omega) (by omega) rfl rfl hc hs
  have eA : cA = Ω.2.1 3 := Option.some.inj (fA.symm.trans (hK.2 3 _ rfl).2)
  have eC : comp = Ω.2.1 0 := Option.some.inj (fC.symm.trans (hK.2 0 _ rfl).2)
  subst eA
  subst eC
  generalize hF : Jvm.Free.Multi.fill (T.setVm vm₁) (Ω.2.1 3) (Ω.2.1 0) n.toNatClampNeg k.toNatClampNeg (defaultValue .int) n.toNatClampNeg = FF at X' step
  have hTh : (T.setVm vm₁).heap = H := hT
  obtain ⟨f1, f2, -, -⟩ := Jvm.Free.Multi.fill_facts (T.setVm vm₁) (Ω.2.1 3) (Ω.2.1 0) n.toNatClampNeg k.toNatClampNeg (defaultValue .int) n.toNatClampNeg
  rw [hF, hTh] at f1 f2
  have hold : ∀ x : Nat, x < H.size → FF.heap[x]? = H[x]? := fun x hx => by
    have := Jvm.Free.Multi.fill_old (T.setVm vm₁) (Ω.2.1 3) (Ω.2.1 0) n.toNatClampNeg k.toNatClampNeg (defaultValue .int) (a := x) (by rw [hTh]; exact hx) n.toNatClampNeg
    rw [hF, hTh] at this
    exact this
  have hrow : ∀ j : Nat, j < n.toNatClampNeg → FF.heap[H.size + 1 + j]? = some (Jvm.Free.Multi.innerC (Ω.2.1 0) k.toNatClampNeg (defaultValue .int)) := fun j hj => by
    have := Jvm.Free.Multi.fill_inner (T.setVm vm₁) (Ω.2.1 3) (Ω.2.1 0) n.toNatClampNeg k.toNatClampNeg (defaultValue .int) n.toNatClampNeg j hj
    rw [hF, hTh] at this
    exact this
  have hP : va_P Ω.1 vwCl (mj_w Ω (M.1 ++ (3, n.toNatClampNeg) :: List.replicate n.toNatClampNeg (0, k.toNatClampNeg), (List.range n.toNatClampNeg).map (fun j => ((M.1.length, j), M.1.length + 1 + j)) ++ M.2.1, M.2.2)) FF.heap := by
    intro i q hq
    simp only [mj_w, List.getElem?_mapIdx, Option.map_eq_some_iff] at hq
    obtain ⟨sh, hsh, rfl⟩ := hq
    by_cases h1 : i < M.1.length
    · rw [List.getElem?_append_left h1] at hsh
      have h0 : (mj_w Ω M)[i]? = some (Ω.2.2.1 + i, mj_cell Ω M i sh) := by simp [mj_w, List.getElem?_mapIdx, hsh]
      have h2 := hH.1 i _ h0
      have e7 : mj_cell Ω (M.1 ++ (3, n.toNatClampNeg) :: List.replicate n.toNatClampNeg (0, k.toNatClampNeg), (List.range n.toNatClampNeg).map (fun j => ((M.1.length, j), M.1.length + 1 + j)) ++ M.2.1, M.2.2) i sh = mj_cell Ω M i sh := mj_cell_cong rfl rfl (fun b => hR3 i b (by omega))
      rw [e7]
      exact h2.kept (hold _ h2.lt)
    · rw [List.getElem?_append_right (by omega)] at hsh
      obtain ⟨j, rfl⟩ : ∃ j, i = M.1.length + j := ⟨i - M.1.length, by omega⟩
      rw [show M.1.length + j - M.1.length = j by omega] at hsh
      match j, hsh with
      | 0, hsh =>
        cases hsh
        show FF.heap[Ω.2.2.1 + (M.1.length + 0)]? = some (vp_cell (Ω.2.1 3) (n.toNatClampNeg, .inr (.inr (.inr (.inr (fun b => (mj_rf _ (M.1.length + 0) b).map (mj_q Ω)))))))
        rw [Nat.add_zero, ← hsz, f2, vp_cell_q, vr_outer]
        congr 2
        funext b
        show va_rf _ = va_rf ((mj_rf (M.1, (List.range n.toNatClampNeg).map (fun j => ((M.1.length, j), M.1.length + 1 + j)) ++ M.2.1, M.2.2) M.1.length b).map (mj_q Ω))
        rw [hR2 b]
        by_cases hb9 : b < n.toNatClampNeg
        · rw [if_pos hb9, if_pos hb9, Option.map_some, hsz]
          congr 2
          simp only [mj_q]
          rw [if_pos (by omega)]
          omega
        · rw [if_neg hb9, if_neg hb9]
          rfl
      | j + 1, hsh =>
        rw [List.getElem?_cons_succ] at hsh
        have hj : j < n.toNatClampNeg := by
          have := (List.getElem?_eq_some_iff.mp hsh).1
          simpa using this
        rw [List.getElem?_replicate, if_pos hj] at hsh
        cases hsh
        have h0 : M.2.2.1 (M.1.length + (j + 1)) = fun _ => 0 := funext (fun b => hI (j + 1) b (by omega))
        show FF.heap[Ω.2.2.1 + (M.1.length + (j + 1))]? = some (vp_cell (Ω.2.1 0) (k.toNatClampNeg, .inl (M.2.2.1 (M.1.length + (j + 1)))))
        rw [h0, vp_cell_i, show Ω.2.2.1 + (M.1.length + (j + 1)) = H.size + 1 + j by omega, hrow j hj]
        rw [← arrV_new]
        rfl
  have hk9 := hk FF.heap locs ls ⟨hP, fun _ => by
    show FF.heap.size = _
    rw [f1, hsz]
    simp only [List.length_append, List.length_cons, List.length_replicate]
    omega, ⟨Nat.le_trans hH.2.2.1 (by rw [f1]; omega), fun x h1 h2 => (hold x (Nat.lt_of_lt_of_le h1 hH.2.2.1)).trans (hH.2.2.2.1 x h1 h2), hH.2.2.2.2⟩⟩ hl FF rfl X'
  obtain ⟨t, a1, b1⟩ := hk9
  refine ⟨t, step t ?_, b1⟩
  have e9 : T.heap.size = H.size := by rw [hT]
  rw [e9]
  have e8 : mj_v Ω (.ref M.1.length) = .ref H.size := by
    simp only [mj_v, mj_q]
    rw [if_pos (by omega), hsz]
  rw [List.map_cons, e8] at a1
  exact a1
end MJN
end
section
/-! ===== the constructors (by program, wip/whole/gen_ctor.py) ===== -/
section MJR
variable {p : Program} {l : Launch} {e : Env} {R : Room} {s : State} {m : MethodId} {args : Array Value} {below : List Frame} {meth : Method} {c : Code} {Ω : mj_Om} {al : Bool} {o : Nat} {ini : Bool} {cc : ByteArray} {nL pc : Nat} {L : List (Option Value)} {M : mj_M} {Φ : Option Value → mj_M → Prop} {mc ms : Nat}
theorem mj_ret_ok (F : mj_F Ω p s m args meth c o ini cc nL none) (hdg : decode cc pc = .ok (.return_, 1)) (h : Φ none M) : mj_Wg Ω al nL p l e R s m args below meth c mc ms (MQ below (mj_Qc Ω al Φ) args s mc ms (mj_A Ω)) pc (L, [], M) := by
  intro H locs ls hH hl
  obtain ⟨hx, hb, hml, hown, hts, hr, hlk2, hKk, hin, hbs, hKc⟩ := F
  exact W.vret hx hb hr (mj_leave (as := args) hbs hKk hKc hH none h) hH.2.2.2.2 hdg hlk2
end MJR
theorem mj_pde {cc : ByteArray} {P : List (Nat × Instr × Nat)} (h : mj_pd cc P) (k : Nat) {pc n : Nat} {i : Instr} (hk : P[k]? = some (pc, i, n)) : decode cc pc = .ok (i, n) := (h _ (List.mem_of_getElem? hk)).1
def mX0_init : mj_m := (0, true, cX0_init, 1, none, yX0_init)
def pX0_init : List (Nat × Instr × Nat) := [(0, .aload_n 0, 1), (1, .invokespecial 1, 3), (4, .aload_n 0, 1), (5, .sipush 1960, 3), (8, .newarray .int, 2), (10, .putfield 11, 3), (13, .return_, 1)]
set_option maxRecDepth 100000 in
theorem dX0_init : (pX0_init.all (fun e => decide (decode cX0_init e.1 = .ok (e.2.1, e.2.2)))) = true := by decide +kernel
set_option maxRecDepth 100000 in
theorem fX0_init : mj_mf mX0_init := ⟨mj_gw_in (by decide +kernel), mj_gw_in (by decide +kernel), by decide, by decide, by decide⟩
set_option maxRecDepth 100000 in
theorem iX0_init : Cond.instanceMethod yX0_init ∈ mj_GW := mj_gw_in (by decide +kernel)
def mX1_init : mj_m := (1, true, cX1_init, 1, none, yX1_init)
def pX1_init : List (Nat × Instr × Nat) := [(0, .aload_n 0, 1), (1, .invokespecial 1, 3), (4, .aload_n 0, 1), (5, .bipush 7, 2), (7, .newarray .int, 2), (9, .putfield 9, 3), (12, .return_, 1)]
set_option maxRecDepth 100000 in
theorem dX1_init : (pX1_init.all (fun e => decide (decode cX1_init e.1 = .ok (e.2.1, e.2.2)))) = true := by decide +kernel
set_option maxRecDepth 100000 in
theorem fX1_init : mj_mf mX1_init := ⟨mj_gw_in (by decide +kernel), mj_gw_in (by decide +kernel), by decide, by decide, by decide⟩
set_option maxRecDepth 100000 in
theorem iX1_init : Cond.instanceMethod yX1_init ∈ mj_GW := mj_gw_in (by decide +kernel)
def mX2_init : mj_m := (2, true, cX2_init, 1, none, yX2_init)
def pX2_init : List (Nat × Instr × Nat) := [(0, .aload_n 0, 1), (1, .invokespecial 1, 3), (4, .return_, 1)]
set_option maxRecDepth 100000 in
theorem dX2_init : (pX2_init.all (fun e => decide (decode cX2_init e.1 = .ok (e.2.1, e.2.2)))) = true := by decide +kernel
set_option maxRecDepth 100000 in
theorem fX2_init : mj_mf mX2_init := ⟨mj_gw_in (by decide +kernel), mj_gw_in (by decide +kernel), by decide, by decide, by decide⟩
set_option maxRecDepth 100000 in
theorem iX2_init : Cond.instanceMethod yX2_init ∈ mj_GW := mj_gw_in (by decide +kernel)
def mX3_init : mj_m := (3, true, cX3_init, 1, none, yX3_init)
def pX3_init : List (Nat × Instr × Nat) := [(0, .aload_n 0, 1), (1, .invokespecial 3, 3), (4, .aload_n 0, 1), (5, .bipush 8, 2), (7, .newarray .int, 2), (9, .putfield 9, 3), (12, .aload_n 0, 1), (13, .bipush 8, 2), (15, .newarray .int, 2), (17, .putfield 15, 3), (20, .aload_n 0, 1), (21, .bipush 8, 2), (23, .newarray .int, 2), (25, .putfield 18, 3), (28, .aload_n 0, 1), (29, .bipush 8, 2), (31, .newarray .int, 2), (33, .putfield 21, 3), (36, .aload_n 0, 1), (37, .bipush 8, 2), (39, .newarray .int, 2), (41, .putfield 24, 3), (44, .aload_n 0, 1), (45, .bipush 8, 2), (47, .newarray .int, 2), (49, .putfield 27, 3), (52, .aload_n 0, 1), (53, .bipush 8, 2), (55, .newarray .int, 2), (57, .putfield 30, 3), (60, .aload_n 0, 1), (61, .bipush 8, 2), (63, .newarray .int, 2), (65, .putfield 33, 3), (68, .return_, 1)]
set_option maxRecDepth 100000 in
theorem dX3_init : (pX3_init.all (fun e => decide (decode cX3_init e.1 = .ok (e.2.1, e.2.2)))) = true := by decide +kernel
set_option maxRecDepth 100000 in
theorem fX3_init : mj_mf mX3_init := ⟨mj_gw_in (by decide +kernel), mj_gw_in (by decide +kernel), by decide, by decide, by decide⟩
set_option maxRecDepth 100000 in
theorem iX3_init : Cond.instanceMethod yX3_init ∈ mj_GW := mj_gw_in (by decide +kernel)
def mX4_init : mj_m := (4, true, cX4_init, 2, none, yX4_init)
def pX4_init : List (Nat × Instr × Nat) := [(0, .aload_n 0, 1), (1, .invokespecial 3, 3), (4, .aload_n 0, 1), (5, .bipush 7, 2), (7, .newarray .int, 2), (9, .putfield 11, 3), (12, .aload_n 0, 1), (13, .bipush 8, 2), (15, .newarray .int, 2), (17, .putfield 17, 3), (20, .aload_n 0, 1), (21, .bipush 8, 2), (23, .newarray .int, 2), (25, .putfield 20, 3), (28, .aload_n 0, 1), (29, .aload_n 1, 1), (30, .putfield 23, 3), (33, .return_, 1)]
set_option maxRecDepth 100000 in
theorem dX4_init : (pX4_init.all (fun e => decide (decode cX4_init e.1 = .ok (e.2.1, e.2.2)))) = true := by decide +kernel
set_option maxRecDepth 100000 in
theorem fX4_init : mj_mf mX4_init := ⟨mj_gw_in (by decide +kernel), mj_gw_in (by decide +kernel), by decide, by decide, by decide⟩
set_option maxRecDepth 100000 in
theorem iX4_init : Cond.instanceMethod yX4_init ∈ mj_GW := mj_gw_in (by decide +kernel)
def mX5_init : mj_m := (5, true, cX5_init, 1, none, yX5_init)
def pX5_init : List (Nat × Instr × Nat) := [(0, .aload_n 0, 1), (1, .invokespecial 3, 3), (4, .aload_n 0, 1), (5, .bipush 8, 2), (7, .newarray .int, 2), (9, .putfield 9, 3), (12, .aload_n 0, 1), (13, .bipush 8, 2), (15, .newarray .int, 2), (17, .putfield 15, 3), (20, .aload_n 0, 1), (21, .bipush 8, 2), (23, .newarray .int, 2), (25, .putfield 18, 3), (28, .aload_n 0, 1), (29, .bipush 8, 2), (31, .newarray .int, 2), (33, .putfield 21, 3), (36, .return_, 1)]
set_option maxRecDepth 100000 in
theorem dX5_init : (pX5_init.all (fun e => decide (decode cX5_init e.1 = .ok (e.2.1, e.2.2)))) = true := by decide +kernel
set_option maxRecDepth 100000 in
theorem fX5_init : mj_mf mX5_init := ⟨mj_gw_in (by decide +kernel), mj_gw_in (by decide +kernel), by decide, by decide, by decide⟩
set_option maxRecDepth 100000 in
theorem iX5_init : Cond.instanceMethod yX5_init ∈ mj_GW := mj_gw_in (by decide +kernel)
def mX6_init : mj_m := (6, true, cX6_init, 1, none, yX6_init)
def pX6_init : List (Nat × Instr × Nat) := [(0, .aload_n 0, 1), (1, .invokespecial 5, 3), (4, .aload_n 0, 1), (5, .iconst 4, 1), (6, .sipush 240, 3), (9, .multianewarray 13 2, 4), (13, .putfield 15, 3), (16, .aload_n 0, 1), (17, .iconst 4, 1), (18, .newarray .int, 2), (20, .putfield 18, 3), (23, .aload_n 0, 1), (24, .bipush 64, 2), (26, .newarray .int, 2), (28, .putfield 22, 3), (31, .return_, 1)]
set_option maxRecDepth 100000 in
theorem dX6_init : (pX6_init.all (fun e => decide (decode cX6_init e.1 = .ok (e.2.1, e.2.2)))) = true := by decide +kernel
set_option maxRecDepth 100000 in
theorem fX6_init : mj_mf mX6_init := ⟨mj_gw_in (by decide +kernel), mj_gw_in (by decide +kernel), by decide, by decide, by decide⟩
set_option maxRecDepth 100000 in
theorem iX6_init : Cond.instanceMethod yX6_init ∈ mj_GW := mj_gw_in (by decide +kernel)
def mX7_init : mj_m := (7, true, cX7_init, 2, none, yX7_init)
def pX7_init : List (Nat × Instr × Nat) := [(0, .aload_n 0, 1), (1, .invokespecial 3, 3), (4, .aload_n 0, 1), (5, .sipush 240, 3), (8, .newarray .int, 2), (10, .putfield 11, 3), (13, .aload_n 0, 1), (14, .aload_n 1, 1), (15, .putfield 17, 3), (18, .return_, 1)]
set_option maxRecDepth 100000 in
theorem dX7_init : (pX7_init.all (fun e => decide (decode cX7_init e.1 = .ok (e.2.1, e.2.2)))) = true := by decide +kernel
set_option maxRecDepth 100000 in
theorem fX7_init : mj_mf mX7_init := ⟨mj_gw_in (by decide +kernel), mj_gw_in (by decide +kernel), by decide, by decide, by decide⟩
set_option maxRecDepth 100000 in
theorem iX7_init : Cond.instanceMethod yX7_init ∈ mj_GW := mj_gw_in (by decide +kernel)
def mX8_init : mj_m := (8, true, cX8_init, 1, none, yX8_init)
def pX8_init : List (Nat × Instr × Nat) := [(0, .aload_n 0, 1), (1, .invokespecial 3, 3), (4, .aload_n 0, 1), (5, .sipush 240, 3), (8, .newarray .int, 2), (10, .putfield 11, 3), (13, .return_, 1)]
set_option maxRecDepth 100000 in
theorem dX8_init : (pX8_init.all (fun e => decide (decode cX8_init e.1 = .ok (e.2.1, e.2.2)))) = true := by decide +kernel
set_option maxRecDepth 100000 in
theorem fX8_init : mj_mf mX8_init := ⟨mj_gw_in (by decide +kernel), mj_gw_in (by decide +kernel), by decide, by decide, by decide⟩
set_option maxRecDepth 100000 in
theorem iX8_init : Cond.instanceMethod yX8_init ∈ mj_GW := mj_gw_in (by decide +kernel)
def mX9_init : mj_m := (9, true, cX9_init, 1, none, yX9_init)
def pX9_init : List (Nat × Instr × Nat) := [(0, .aload_n 0, 1), (1, .invokespecial 3, 3), (4, .aload_n 0, 1), (5, .iconst 5, 1), (6, .newarray .int, 2), (8, .putfield 11, 3), (11, .aload_n 0, 1), (12, .iconst 3, 1), (13, .newarray .int, 2), (15, .putfield 15, 3), (18, .aload_n 0, 1), (19, .iconst 3, 1), (20, .newarray .int, 2), (22, .putfield 18, 3), (25, .return_, 1)]
set_option maxRecDepth 100000 in
theorem dX9_init : (pX9_init.all (fun e => decide (decode cX9_init e.1 = .ok (e.2.1, e.2.2)))) = true := by decide +kernel
set_option maxRecDepth 100000 in
theorem fX9_init : mj_mf mX9_init := ⟨mj_gw_in (by decide +kernel), mj_gw_in (by decide +kernel), by decide, by decide, by decide⟩
set_option maxRecDepth 100000 in
theorem iX9_init : Cond.instanceMethod yX9_init ∈ mj_GW := mj_gw_in (by decide +kernel)
def mX10_init : mj_m := (10, true, cX10_init, 2, none, yX10_init)
def pX10_init : List (Nat × Instr × Nat) := [(0, .aload_n 0, 1), (1, .invokespecial 3, 3), (4, .aload_n 0, 1), (5, .bipush 7, 2), (7, .newarray .int, 2), (9, .putfield 11, 3), (12, .aload_n 0, 1), (13, .new 9, 3), (16, .dup, 1), (17, .invokespecial 17, 3), (20, .putfield 18, 3), (23, .aload_n 0, 1), (24, .new 22, 3), (27, .dup, 1), (28, .invokespecial 24, 3), (31, .putfield 25, 3), (34, .aload_n 0, 1), (35, .aload_n 1, 1), (36, .putfield 29, 3), (39, .return_, 1)]
set_option maxRecDepth 100000 in
theorem dX10_init : (pX10_init.all (fun e => decide (decode cX10_init e.1 = .ok (e.2.1, e.2.2)))) = true := by decide +kernel
set_option maxRecDepth 100000 in
theorem fX10_init : mj_mf mX10_init := ⟨mj_gw_in (by decide +kernel), mj_gw_in (by decide +kernel), by decide, by decide, by decide⟩
set_option maxRecDepth 100000 in
theorem iX10_init : Cond.instanceMethod yX10_init ∈ mj_GW := mj_gw_in (by decide +kernel)
def mX11_init : mj_m := (11, true, cX11_init, 1, none, yX11_init)
def pX11_init : List (Nat × Instr × Nat) := [(0, .aload_n 0, 1), (1, .invokespecial 1, 3), (4, .aload_n 0, 1), (5, .new 7, 3), (8, .dup, 1), (9, .invokespecial 9, 3), (12, .putfield 10, 3), (15, .aload_n 0, 1), (16, .new 16, 3), (19, .dup, 1), (20, .invokespecial 18, 3), (23, .putfield 19, 3), (26, .aload_n 0, 1), (27, .new 23, 3), (30, .dup, 1), (31, .aload_n 0, 1), (32, .getfield 10, 3), (35, .invokespecial 25, 3), (38, .putfield 28, 3), (41, .aload_n 0, 1), (42, .new 32, 3), (45, .dup, 1), (46, .aload_n 0, 1), (47, .getfield 10, 3), (50, .invokespecial 34, 3), (53, .putfield 35, 3), (56, .aload_n 0, 1), (57, .new 39, 3), (60, .dup, 1), (61, .invokespecial 41, 3), (64, .putfield 42, 3), (67, .aload_n 0, 1), (68, .new 39, 3), (71, .dup, 1), (72, .invokespecial 41, 3), (75, .putfield 46, 3), (78, .aload_n 0, 1), (79, .new 49, 3), (82, .dup, 1), (83, .invokespecial 51, 3), (86, .putfield 52, 3), (89, .aload_n 0, 1), (90, .new 49, 3), (93, .dup, 1), (94, .invokespecial 51, 3), (97, .putfield 56, 3), (100, .aload_n 0, 1), (101, .new 49, 3), (104, .dup, 1), (105, .invokespecial 51, 3), (108, .putfield 59, 3), (111, .aload_n 0, 1), (112, .new 49, 3), (115, .dup, 1), (116, .invokespecial 51, 3), (119, .putfield 62, 3), (122, .aload_n 0, 1), (123, .new 49, 3), (126, .dup, 1), (127, .invokespecial 51, 3), (130, .putfield 65, 3), (133, .aload_n 0, 1), (134, .new 68, 3), (137, .dup, 1), (138, .aload_n 0, 1), (139, .getfield 19, 3), (142, .invokespecial 70, 3), (145, .putfield 73, 3), (148, .aload_n 0, 1), (149, .new 77, 3), (152, .dup, 1), (153, .invokespecial 79, 3), (156, .putfield 80, 3), (159, .aload_n 0, 1), (160, .new 84, 3), (163, .dup, 1), (164, .invokespecial 86, 3), (167, .putfield 87, 3), (170, .aload_n 0, 1), (171, .new 91, 3), (174, .dup, 1), (175, .invokespecial 93, 3), (178, .putfield 94, 3), (181, .aload_n 0, 1), (182, .new 98, 3), (185, .dup, 1), (186, .invokespecial 100, 3), (189, .putfield 101, 3), (192, .return_, 1)]
set_option maxRecDepth 100000 in
theorem dX11_init : (pX11_init.all (fun e => decide (decode cX11_init e.1 = .ok (e.2.1, e.2.2)))) = true := by decide +kernel
set_option maxRecDepth 100000 in
theorem fX11_init : mj_mf mX11_init := ⟨mj_gw_in (by decide +kernel), mj_gw_in (by decide +kernel), by decide, by decide, by decide⟩
set_option maxRecDepth 100000 in
theorem iX11_init : Cond.instanceMethod yX11_init ∈ mj_GW := mj_gw_in (by decide +kernel)
def mX12_init : mj_m := (12, true, cX12_init, 1, none, yX12_init)
def pX12_init : List (Nat × Instr × Nat) := [(0, .aload_n 0, 1), (1, .invokespecial 3, 3), (4, .aload_n 0, 1), (5, .sipush 240, 3), (8, .newarray .int, 2), (10, .putfield 9, 3), (13, .aload_n 0, 1), (14, .sipush 2600, 3), (17, .newarray .int, 2), (19, .putfield 13, 3), (22, .aload_n 0, 1), (23, .sipush 2600, 3), (26, .newarray .int, 2), (28, .putfield 16, 3), (31, .aload_n 0, 1), (32, .iconst 5, 1), (33, .newarray .int, 2), (35, .putfield 19, 3), (38, .aload_n 0, 1), (39, .iconst 5, 1), (40, .newarray .int, 2), (42, .putfield 22, 3), (45, .aload_n 0, 1), (46, .sipush 700, 3), (49, .newarray .int, 2), (51, .putfield 25, 3), (54, .aload_n 0, 1), (55, .sipush 700, 3), (58, .newarray .int, 2), (60, .putfield 28, 3), (63, .aload_n 0, 1), (64, .sipush 700, 3), (67, .newarray .int, 2), (69, .putfield 31, 3), (72, .aload_n 0, 1), (73, .bipush 7, 2), (75, .newarray .int, 2), (77, .putfield 34, 3), (80, .aload_n 0, 1), (81, .bipush 80, 2), (83, .newarray .int, 2), (85, .putfield 37, 3), (88, .aload_n 0, 1), (89, .bipush 7, 2), (91, .newarray .int, 2), (93, .putfield 40, 3), (96, .aload_n 0, 1), (97, .bipush 48, 2), (99, .newarray .int, 2), (101, .putfield 43, 3), (104, .aload_n 0, 1), (105, .bipush 7, 2), (107, .newarray .int, 2), (109, .putfield 46, 3), (112, .aload_n 0, 1), (113, .bipush 48, 2), (115, .newarray .int, 2), (117, .putfield 49, 3), (120, .aload_n 0, 1), (121, .bipush 49, 2), (123, .newarray .int, 2), (125, .putfield 52, 3), (128, .aload_n 0, 1), (129, .iconst (-1), 1), (130, .putfield 55, 3), (133, .aload_n 0, 1), (134, .bipush 8, 2), (136, .newarray .boolean, 2), (138, .putfield 59, 3), (141, .aload_n 0, 1), (142, .bipush 8, 2), (144, .newarray .int, 2), (146, .putfield 63, 3), (149, .aload_n 0, 1), (150, .bipush 8, 2), (152, .newarray .int, 2), (154, .putfield 66, 3), (157, .aload_n 0, 1), (158, .sipush 1960, 3), (161, .newarray .int, 2), (163, .putfield 69, 3), (166, .aload_n 0, 1), (167, .bipush 49, 2), (169, .newarray .int, 2), (171, .putfield 72, 3), (174, .aload_n 0, 1), (175, .bipush 8, 2), (177, .newarray .int, 2), (179, .putfield 75, 3), (182, .aload_n 0, 1), (183, .bipush 7, 2), (185, .newarray .int, 2), (187, .putfield 78, 3), (190, .aload_n 0, 1), (191, .bipush 12, 2), (193, .newarray .int, 2), (195, .putfield 81, 3), (198, .aload_n 0, 1), (199, .bipush 12, 2), (201, .newarray .int, 2), (203, .putfield 84, 3), (206, .aload_n 0, 1), (207, .bipush 12, 2), (209, .newarray .int, 2), (211, .putfield 87, 3), (214, .aload_n 0, 1), (215, .bipush 12, 2), (217, .newarray .int, 2), (219, .putfield 90, 3), (222, .aload_n 0, 1), (223, .sipush 320, 3), (226, .newarray .int, 2), (228, .putfield 93, 3), (231, .aload_n 0, 1), (232, .bipush 49, 2), (234, .newarray .int, 2), (236, .putfield 96, 3), (239, .return_, 1)]
set_option maxRecDepth 100000 in
theorem dX12_init : (pX12_init.all (fun e => decide (decode cX12_init e.1 = .ok (e.2.1, e.2.2)))) = true := by decide +kernel
set_option maxRecDepth 100000 in
theorem fX12_init : mj_mf mX12_init := ⟨mj_gw_in (by decide +kernel), mj_gw_in (by decide +kernel), by decide, by decide, by decide⟩
set_option maxRecDepth 100000 in
theorem iX12_init : Cond.instanceMethod yX12_init ∈ mj_GW := mj_gw_in (by decide +kernel)
theorem mj_ade {cc : ByteArray} {P : List (Nat × Instr × Nat)} (h : P.all (fun e => decide (decode cc e.1 = .ok (e.2.1, e.2.2))) = true) (k : Nat) {pc n : Nat} {i : Instr} (hk : P[k]? = some (pc, i, n)) : decode cc pc = .ok (i, n) := by
  have h1 := List.all_eq_true.mp h (pc, i, n) (List.mem_of_getElem? hk)
  simpa using h1
set_option maxRecDepth 100000 in
theorem mw_ol11 : Cond.methodLink (mj_own.getD 11 "") 1 Lib.objectInit ∈ mj_GW := mj_gw_in (by decide +kernel)
set_option maxRecDepth 100000 in
theorem mw_oi : Cond.instanceMethod Lib.objectInit ∈ mj_GW := mj_gw_in (by decide +kernel)
set_option maxRecDepth 100000 in
theorem mw_oc : Cond.code Lib.objectInit ⟨#[0xb1]⟩ 1 none ∈ mj_GW := mj_gw_in (by decide +kernel)
set_option maxRecDepth 100000 in
theorem mw_cl11_7 : Cond.classLink (mj_own.getD 11 "") 7 RX8 ∈ mj_GW := mj_gw_in (by decide +kernel)
set_option maxRecDepth 100000 in
theorem mw_in8 : Cond.instantiable RX8 3 ∈ mj_GW := mj_gw_in (by decide +kernel)
set_option maxRecDepth 100000 in
theorem mw_iz8 : Cond.initialized RX8 ∈ mj_GW := mj_gw_in (by decide +kernel)
set_option maxRecDepth 100000 in
theorem mw_ol8 : Cond.methodLink (mj_own.getD 8 "") 3 Lib.objectInit ∈ mj_GW := mj_gw_in (by decide +kernel)
set_option maxRecDepth 100000 in
theorem mw_ar0 : Cond.arrayClass (newarray.typeOf (mj_aty 0)) ∈ mj_GW := mj_gw_in (by decide +kernel)
set_option maxRecDepth 100000 in
theorem mw_l11_9 : Cond.methodLinkNest (mj_own.getD 11 "") 9 yX8_init "GunLine" ∈ mj_NW := List.mem_filter.mpr ⟨by decide +kernel, rfl⟩
set_option maxRecDepth 100000 in
theorem mw_cl11_16 : Cond.classLink (mj_own.getD 11 "") 16 RX6 ∈ mj_GW := mj_gw_in (by decide +kernel)
set_option maxRecDepth 100000 in
theorem mw_in6 : Cond.instantiable RX6 4 ∈ mj_GW := mj_gw_in (by decide +kernel)
set_option maxRecDepth 100000 in
theorem mw_iz6 : Cond.initialized RX6 ∈ mj_GW := mj_gw_in (by decide +kernel)
set_option maxRecDepth 100000 in
theorem mw_ol6 : Cond.methodLink (mj_own.getD 6 "") 5 Lib.objectInit ∈ mj_GW := mj_gw_in (by decide +kernel)
set_option maxRecDepth 100000 in
theorem mw_mc : Cond.classLink (mj_own.getD 6 "") 13 ("[" ++ (FieldType.array .int).toString) ∈ mj_GW := mj_gw_in (by decide +kernel)
set_option maxRecDepth 100000 in
theorem mw_mo : Cond.arrayOver (.array .int) ∈ mj_NW := List.mem_filter.mpr ⟨by decide +kernel, rfl⟩
set_option maxRecDepth 100000 in
theorem mw_l11_18 : Cond.methodLinkNest (mj_own.getD 11 "") 18 yX6_init "GunLine" ∈ mj_NW := List.mem_filter.mpr ⟨by decide +kernel, rfl⟩
set_option maxRecDepth 100000 in
theorem mw_cl11_23 : Cond.classLink (mj_own.getD 11 "") 23 RX10 ∈ mj_GW := mj_gw_in (by decide +kernel)
set_option maxRecDepth 100000 in
theorem mw_in10 : Cond.instantiable RX10 5 ∈ mj_GW := mj_gw_in (by decide +kernel)
set_option maxRecDepth 100000 in
theorem mw_iz10 : Cond.initialized RX10 ∈ mj_GW := mj_gw_in (by decide +kernel)
set_option maxRecDepth 100000 in
theorem mw_ol10 : Cond.methodLink (mj_own.getD 10 "") 3 Lib.objectInit ∈ mj_GW := mj_gw_in (by decide +kernel)
set_option maxRecDepth 100000 in
theorem mw_cl10_9 : Cond.classLink (mj_own.getD 10 "") 9 RX1 ∈ mj_GW := mj_gw_in (by decide +kernel)
set_option maxRecDepth 100000 in
theorem mw_in1 : Cond.instantiable RX1 1 ∈ mj_GW := mj_gw_in (by decide +kernel)
set_option maxRecDepth 100000 in
theorem mw_iz1 : Cond.initialized RX1 ∈ mj_GW := mj_gw_in (by decide +kernel)
set_option maxRecDepth 100000 in
theorem mw_ol1 : Cond.methodLink (mj_own.getD 1 "") 1 Lib.objectInit ∈ mj_GW := mj_gw_in (by decide +kernel)
set_option maxRecDepth 100000 in
theorem mw_l10_17 : Cond.methodLinkNest (mj_own.getD 10 "") 17 yX1_init "GunLine" ∈ mj_NW := List.mem_filter.mpr ⟨by decide +kernel, rfl⟩
set_option maxRecDepth 100000 in
theorem mw_cl10_22 : Cond.classLink (mj_own.getD 10 "") 22 RX3 ∈ mj_GW := mj_gw_in (by decide +kernel)
set_option maxRecDepth 100000 in
theorem mw_in3 : Cond.instantiable RX3 10 ∈ mj_GW := mj_gw_in (by decide +kernel)
set_option maxRecDepth 100000 in
theorem mw_iz3 : Cond.initialized RX3 ∈ mj_GW := mj_gw_in (by decide +kernel)
set_option maxRecDepth 100000 in
theorem mw_ol3 : Cond.methodLink (mj_own.getD 3 "") 3 Lib.objectInit ∈ mj_GW := mj_gw_in (by decide +kernel)
set_option maxRecDepth 100000 in
theorem mw_l10_24 : Cond.methodLinkNest (mj_own.getD 10 "") 24 yX3_init "GunLine" ∈ mj_NW := List.mem_filter.mpr ⟨by decide +kernel, rfl⟩
set_option maxRecDepth 100000 in
theorem mw_l11_25 : Cond.methodLink (mj_own.getD 11 "") 25 yX10_init ∈ mj_GW := mj_gw_in (by decide +kernel)
set_option maxRecDepth 100000 in
theorem mw_cl11_32 : Cond.classLink (mj_own.getD 11 "") 32 RX7 ∈ mj_GW := mj_gw_in (by decide +kernel)
set_option maxRecDepth 100000 in
theorem mw_in7 : Cond.instantiable RX7 3 ∈ mj_GW := mj_gw_in (by decide +kernel)
set_option maxRecDepth 100000 in
theorem mw_iz7 : Cond.initialized RX7 ∈ mj_GW := mj_gw_in (by decide +kernel)
set_option maxRecDepth 100000 in
theorem mw_ol7 : Cond.methodLink (mj_own.getD 7 "") 3 Lib.objectInit ∈ mj_GW := mj_gw_in (by decide +kernel)
set_option maxRecDepth 100000 in
theorem mw_l11_34 : Cond.methodLink (mj_own.getD 11 "") 34 yX7_init ∈ mj_GW := mj_gw_in (by decide +kernel)
set_option maxRecDepth 100000 in
theorem mw_cl11_39 : Cond.classLink (mj_own.getD 11 "") 39 RX1 ∈ mj_GW := mj_gw_in (by decide +kernel)
set_option maxRecDepth 100000 in
theorem mw_l11_41 : Cond.methodLinkNest (mj_own.getD 11 "") 41 yX1_init "GunLine" ∈ mj_NW := List.mem_filter.mpr ⟨by decide +kernel, rfl⟩
set_option maxRecDepth 100000 in
theorem mw_cl11_49 : Cond.classLink (mj_own.getD 11 "") 49 RX3 ∈ mj_GW := mj_gw_in (by decide +kernel)
set_option maxRecDepth 100000 in
theorem mw_l11_51 : Cond.methodLinkNest (mj_own.getD 11 "") 51 yX3_init "GunLine" ∈ mj_NW := List.mem_filter.mpr ⟨by decide +kernel, rfl⟩
set_option maxRecDepth 100000 in
theorem mw_cl11_68 : Cond.classLink (mj_own.getD 11 "") 68 RX4 ∈ mj_GW := mj_gw_in (by decide +kernel)
set_option maxRecDepth 100000 in
theorem mw_in4 : Cond.instantiable RX4 4 ∈ mj_GW := mj_gw_in (by decide +kernel)
set_option maxRecDepth 100000 in
theorem mw_iz4 : Cond.initialized RX4 ∈ mj_GW := mj_gw_in (by decide +kernel)
set_option maxRecDepth 100000 in
theorem mw_ol4 : Cond.methodLink (mj_own.getD 4 "") 3 Lib.objectInit ∈ mj_GW := mj_gw_in (by decide +kernel)
set_option maxRecDepth 100000 in
theorem mw_l11_70 : Cond.methodLink (mj_own.getD 11 "") 70 yX4_init ∈ mj_GW := mj_gw_in (by decide +kernel)
set_option maxRecDepth 100000 in
theorem mw_cl11_77 : Cond.classLink (mj_own.getD 11 "") 77 RX2 ∈ mj_GW := mj_gw_in (by decide +kernel)
set_option maxRecDepth 100000 in
theorem mw_in2 : Cond.instantiable RX2 1 ∈ mj_GW := mj_gw_in (by decide +kernel)
set_option maxRecDepth 100000 in
theorem mw_iz2 : Cond.initialized RX2 ∈ mj_GW := mj_gw_in (by decide +kernel)
set_option maxRecDepth 100000 in
theorem mw_ol2 : Cond.methodLink (mj_own.getD 2 "") 1 Lib.objectInit ∈ mj_GW := mj_gw_in (by decide +kernel)
set_option maxRecDepth 100000 in
theorem mw_l11_79 : Cond.methodLinkNest (mj_own.getD 11 "") 79 yX2_init "GunLine" ∈ mj_NW := List.mem_filter.mpr ⟨by decide +kernel, rfl⟩
set_option maxRecDepth 100000 in
theorem mw_cl11_84 : Cond.classLink (mj_own.getD 11 "") 84 RX0 ∈ mj_GW := mj_gw_in (by decide +kernel)
set_option maxRecDepth 100000 in
theorem mw_in0 : Cond.instantiable RX0 3 ∈ mj_GW := mj_gw_in (by decide +kernel)
set_option maxRecDepth 100000 in
theorem mw_iz0 : Cond.initialized RX0 ∈ mj_GW := mj_gw_in (by decide +kernel)
set_option maxRecDepth 100000 in
theorem mw_ol0 : Cond.methodLink (mj_own.getD 0 "") 1 Lib.objectInit ∈ mj_GW := mj_gw_in (by decide +kernel)
set_option maxRecDepth 100000 in
theorem mw_l11_86 : Cond.methodLinkNest (mj_own.getD 11 "") 86 yX0_init "GunLine" ∈ mj_NW := List.mem_filter.mpr ⟨by decide +kernel, rfl⟩
set_option maxRecDepth 100000 in
theorem mw_cl11_91 : Cond.classLink (mj_own.getD 11 "") 91 RX9 ∈ mj_GW := mj_gw_in (by decide +kernel)
set_option maxRecDepth 100000 in
theorem mw_in9 : Cond.instantiable RX9 5 ∈ mj_GW := mj_gw_in (by decide +kernel)
set_option maxRecDepth 100000 in
theorem mw_iz9 : Cond.initialized RX9 ∈ mj_GW := mj_gw_in (by decide +kernel)
set_option maxRecDepth 100000 in
theorem mw_ol9 : Cond.methodLink (mj_own.getD 9 "") 3 Lib.objectInit ∈ mj_GW := mj_gw_in (by decide +kernel)
set_option maxRecDepth 100000 in
theorem mw_l11_93 : Cond.methodLinkNest (mj_own.getD 11 "") 93 yX9_init "GunLine" ∈ mj_NW := List.mem_filter.mpr ⟨by decide +kernel, rfl⟩
set_option maxRecDepth 100000 in
theorem mw_cl11_98 : Cond.classLink (mj_own.getD 11 "") 98 RX5 ∈ mj_GW := mj_gw_in (by decide +kernel)
set_option maxRecDepth 100000 in
theorem mw_in5 : Cond.instantiable RX5 6 ∈ mj_GW := mj_gw_in (by decide +kernel)
set_option maxRecDepth 100000 in
theorem mw_iz5 : Cond.initialized RX5 ∈ mj_GW := mj_gw_in (by decide +kernel)
set_option maxRecDepth 100000 in
theorem mw_ol5 : Cond.methodLink (mj_own.getD 5 "") 3 Lib.objectInit ∈ mj_GW := mj_gw_in (by decide +kernel)
set_option maxRecDepth 100000 in
theorem mw_l11_100 : Cond.methodLinkNest (mj_own.getD 11 "") 100 yX5_init "GunLine" ∈ mj_NW := List.mem_filter.mpr ⟨by decide +kernel, rfl⟩
set_option maxRecDepth 100000 in
theorem mw_ol12 : Cond.methodLink (mj_own.getD 12 "") 3 Lib.objectInit ∈ mj_GW := mj_gw_in (by decide +kernel)
set_option maxRecDepth 100000 in
theorem mw_ar1 : Cond.arrayClass (newarray.typeOf (mj_aty 1)) ∈ mj_GW := mj_gw_in (by decide +kernel)
/-- references in the order of their making, the latest first; the memory when n cells and r references are made -/
def mR1 : List ((Nat × Nat) × Nat) := [((91, 43), 119), ((91, 41), 118), ((91, 39), 117), ((91, 38), 116), ((91, 37), 115), ((91, 36), 114), ((91, 35), 113), ((91, 34), 112), ((91, 33), 111), ((91, 30), 110), ((91, 29), 109), ((91, 28), 108), ((91, 27), 107), ((91, 23), 106), ((91, 21), 105), ((91, 20), 104), ((91, 18), 103), ((91, 17), 102), ((91, 16), 101), ((91, 15), 100), ((91, 12), 99), ((91, 11), 98), ((91, 10), 97), ((91, 9), 96), ((91, 8), 95), ((91, 7), 94), ((91, 6), 93), ((91, 1), 92), ((0, 15), 86), ((86, 3), 90), ((86, 2), 89), ((86, 1), 88), ((86, 0), 87), ((0, 14), 82), ((82, 2), 85), ((82, 1), 84), ((82, 0), 83), ((0, 13), 80), ((80, 0), 81), ((0, 12), 79), ((0, 11), 75), ((75, 0), 3), ((75, 3), 78), ((75, 2), 77), ((75, 1), 76), ((0, 10), 66), ((66, 7), 74), ((66, 6), 73), ((66, 5), 72), ((66, 4), 71), ((66, 3), 70), ((66, 2), 69), ((66, 1), 68), ((66, 0), 67), ((0, 9), 57), ((57, 7), 65), ((57, 6), 64), ((57, 5), 63), ((57, 4), 62), ((57, 3), 61), ((57, 2), 60), ((57, 1), 59), ((57, 0), 58), ((0, 8), 48), ((48, 7), 56), ((48, 6), 55), ((48, 5), 54), ((48, 4), 53), ((48, 3), 52), ((48, 2), 51), ((48, 1), 50), ((48, 0), 49), ((0, 7), 39), ((39, 7), 47), ((39, 6), 46), ((39, 5), 45), ((39, 4), 44), ((39, 3), 43), ((39, 2), 42), ((39, 1), 41), ((39, 0), 40), ((0, 6), 30), ((30, 7), 38), ((30, 6), 37), ((30, 5), 36), ((30, 4), 35), ((30, 3), 34), ((30, 2), 33), ((30, 1), 32), ((30, 0), 31), ((0, 5), 28), ((28, 0), 29), ((0, 4), 26), ((26, 0), 27), ((0, 3), 24), ((24, 0), 1), ((24, 1), 25), ((0, 2), 11), ((11, 0), 1), ((11, 4), 15), ((15, 7), 23), ((15, 6), 22), ((15, 5), 21), ((15, 4), 20), ((15, 3), 19), ((15, 2), 18), ((15, 1), 17), ((15, 0), 16), ((11, 3), 13), ((13, 0), 14), ((11, 1), 12), ((0, 1), 3), ((3, 2), 10), ((3, 1), 9), ((3, 0), 4), ((4, 0), 5), ((4, 1), 6), ((4, 2), 7), ((4, 3), 8), ((0, 0), 1), ((1, 0), 2)]
abbrev MM (n r : Nat) (I : Nat → Nat → Int32) : mj_M := (mS0.take n, mR1.drop (121 - r), I, fun _ _ => 0)
theorem mj_four (o : Nat) {S : List (Nat × Nat)} {R : List ((Nat × Nat) × Nat)} {I : (Nat → Nat → Int32) × (Nat → Nat → Int64)} (b : Nat) (h : ∀ b, R.lookup (o, b) = none := by exact fun _ => rfl) : mj_rf (S, (List.range 4).map (fun j => ((o, j), o + 1 + j)) ++ R, I) o b = if b < 4 then some (o + 1 + b) else none := by
  match b with
  | 0 => simp [mj_rf, List.range, List.range.loop, List.lookup]
  | 1 =>
    have h0 : ((o, 1) == (o, 0)) = false := by simp
    simp [mj_rf, List.range, List.range.loop, List.lookup, h0]
  | 2 =>
    have h0 : ((o, 2) == (o, 0)) = false := by simp
    have h1 : ((o, 2) == (o, 1)) = false := by simp
    simp [mj_rf, List.range, List.range.loop, List.lookup, h0, h1]
  | 3 =>
    have h0 : ((o, 3) == (o, 0)) = false := by simp
    have h1 : ((o, 3) == (o, 1)) = false := by simp
    have h2 : ((o, 3) == (o, 2)) = false := by simp
    simp [mj_rf, List.range, List.range.loop, List.lookup, h0, h1, h2]
  | b + 4 =>
    rw [if_neg (by omega)]
    have h1 : ((o, b + 4) == (o, 0)) = false := by simp
    have h2 : ((o, b + 4) == (o, 1)) = false := by simp
    have h3 : ((o, b + 4) == (o, 2)) = false := by simp
    have h4 : ((o, b + 4) == (o, 3)) = false := by simp
    simp only [mj_rf, List.range, List.range.loop, List.map_cons, List.map_nil, List.cons_append, List.nil_append, List.lookup_cons, h1, h2, h3, h4]
    exact h (b + 4)
theorem mj_four_ne (o : Nat) {S : List (Nat × Nat)} {R : List ((Nat × Nat) × Nat)} {I : (Nat → Nat → Int32) × (Nat → Nat → Int64)} {a b : Nat} (h : a ≠ o) : mj_rf (S, (List.range 4).map (fun j => ((o, j), o + 1 + j)) ++ R, I) a b = mj_rf (S, R, I) a b := by
  have h1 : ∀ j, ((a, b) == (o, j)) = false := fun j => by simp [h]
  simp only [mj_rf, List.range, List.range.loop, List.map_cons, List.map_nil, List.cons_append, List.nil_append, List.lookup_cons, h1]
set_option maxRecDepth 100000 in
set_option maxHeartbeats 4000000 in
theorem ctX8_init_1 (Ω : mj_Om) (l : Launch) : mj_Met Ω l true mX8_init 1 1 240 [.ref 1] (MM 2 0 (fun _ _ => 0)) (fun r M' => r = none ∧ M' = MM 3 1 (fun _ _ => 0)) := by
  refine mj_entry (by decide) rfl (fun _ => rfl) (by decide) ?_
  intro p e s m args below meth c F
  show mj_Wg _ _ _ _ _ _ _ _ _ _ _ _ _ 0 0 _ 0 (([some (.ref 1)], [], MM 2 0 (fun _ _ => 0)) : mj_S)
  refine mj_run_ok (pe := 1) (S := _) (K := fun S' => S' = (([some (.ref 1)], [.ref 1], MM 2 0 (fun _ _ => 0)) : mj_S)) F [.aload_n 0] ⟨mj_ade dX8_init 0 rfl, rfl⟩ (show (([some (.ref 1)], [.ref 1], MM 2 0 (fun _ _ => 0)) : mj_S) = ([some (.ref 1)], [.ref 1], MM 2 0 (fun _ _ => 0)) from rfl) (fun S' h => ?_)
  subst h
  refine mj_obj_ok F (mj_ade dX8_init 1 rfl) mw_ol8 mw_oi mw_oc (Nat.le_of_ble_eq_true rfl) (Nat.le_of_ble_eq_true rfl) ?_
  show mj_Wg _ _ _ _ _ _ _ _ _ _ _ _ _ 0 0 _ 4 (([some (.ref 1)], [], MM 2 0 (fun _ _ => 0)) : mj_S)
  refine mj_run_ok (pe := 8) (S := _) (K := fun S' => S' = (([some (.ref 1)], [.int 240, .ref 1], MM 2 0 (fun _ _ => 0)) : mj_S)) F [.aload_n 0, .sipush 240] ⟨mj_ade dX8_init 2 rfl, ⟨mj_ade dX8_init 3 rfl, rfl⟩⟩ (show (([some (.ref 1)], [.int 240, .ref 1], MM 2 0 (fun _ _ => 0)) : mj_S) = ([some (.ref 1)], [.int 240, .ref 1], MM 2 0 (fun _ _ => 0)) from rfl) (fun S' h => ?_)
  subst h
  refine mj_newa_ok (t := 0) (N := 240) F (by decide) (mj_ade dX8_init 4 rfl) mw_ar0 (by decide) (by decide) (by decide) (Nat.le_of_ble_eq_true rfl) (fun _ => rfl) (fun _ => rfl) (Nat.le_of_ble_eq_true rfl) (Nat.le_of_ble_eq_true rfl) ?_
  show mj_Wg _ _ _ _ _ _ _ _ _ _ _ _ _ 1 240 _ 10 (([some (.ref 1)], [.ref 2, .ref 1], MM 3 0 (fun _ _ => 0)) : mj_S)
  refine mj_run_ok (pe := 13) (S := _) (K := fun S' => S' = (([some (.ref 1)], [], MM 3 1 (fun _ _ => 0)) : mj_S)) F [.putfield 11] ⟨mj_ade dX8_init 5 rfl, rfl⟩ (show (([some (.ref 1)], [], MM 3 1 (fun _ _ => 0)) : mj_S) = ([some (.ref 1)], [], MM 3 1 (fun _ _ => 0)) from rfl) (fun S' h => ?_)
  subst h
  exact mj_ret_ok F (mj_ade dX8_init 6 rfl) ⟨rfl, rfl⟩
set_option maxRecDepth 100000 in
set_option maxHeartbeats 4000000 in
theorem ctX6_init_3 (Ω : mj_Om) (l : Launch) : mj_Met Ω l true mX6_init 1 7 1032 [.ref 3] (MM 4 2 (fun _ _ => 0)) (fun r M' => r = none ∧ M' = MM 11 9 (fun _ _ => 0)) := by
  refine mj_entry (by decide) rfl (fun _ => rfl) (by decide) ?_
  intro p e s m args below meth c F
  show mj_Wg _ _ _ _ _ _ _ _ _ _ _ _ _ 0 0 _ 0 (([some (.ref 3)], [], MM 4 2 (fun _ _ => 0)) : mj_S)
  refine mj_run_ok (pe := 1) (S := _) (K := fun S' => S' = (([some (.ref 3)], [.ref 3], MM 4 2 (fun _ _ => 0)) : mj_S)) F [.aload_n 0] ⟨mj_ade dX6_init 0 rfl, rfl⟩ (show (([some (.ref 3)], [.ref 3], MM 4 2 (fun _ _ => 0)) : mj_S) = ([some (.ref 3)], [.ref 3], MM 4 2 (fun _ _ => 0)) from rfl) (fun S' h => ?_)
  subst h
  refine mj_obj_ok F (mj_ade dX6_init 1 rfl) mw_ol6 mw_oi mw_oc (Nat.le_of_ble_eq_true rfl) (Nat.le_of_ble_eq_true rfl) ?_
  show mj_Wg _ _ _ _ _ _ _ _ _ _ _ _ _ 0 0 _ 4 (([some (.ref 3)], [], MM 4 2 (fun _ _ => 0)) : mj_S)
  refine mj_run_ok (pe := 9) (S := _) (K := fun S' => S' = (([some (.ref 3)], [.int 240, .int 4, .ref 3], MM 4 2 (fun _ _ => 0)) : mj_S)) F [.aload_n 0, .iconst 4, .sipush 240] ⟨mj_ade dX6_init 2 rfl, ⟨mj_ade dX6_init 3 rfl, ⟨mj_ade dX6_init 4 rfl, rfl⟩⟩⟩ (show (([some (.ref 3)], [.int 240, .int 4, .ref 3], MM 4 2 (fun _ _ => 0)) : mj_S) = ([some (.ref 3)], [.int 240, .int 4, .ref 3], MM 4 2 (fun _ _ => 0)) from rfl) (fun S' h => ?_)
  subst h
  refine mj_mna_ok (N := 4) (K := 240) F (mj_ade dX6_init 5 rfl) mw_mc mw_mo mw_ar0 (by decide) (by decide) (by decide) (by decide) (by decide) (by decide) (Nat.le_of_ble_eq_true rfl) (fun _ _ _ => rfl) (fun _ => rfl) (fun b => mj_four 4 b) (fun a b h => mj_four_ne 4 h) (Nat.le_of_ble_eq_true rfl) (Nat.le_of_ble_eq_true rfl) ?_
  show mj_Wg _ _ _ _ _ _ _ _ _ _ _ _ _ 5 964 _ 13 (([some (.ref 3)], [.ref 4, .ref 3], MM 9 6 (fun _ _ => 0)) : mj_S)
  refine mj_run_ok (pe := 18) (S := _) (K := fun S' => S' = (([some (.ref 3)], [.int 4, .ref 3], MM 9 7 (fun _ _ => 0)) : mj_S)) F [.putfield 15, .aload_n 0, .iconst 4] ⟨mj_ade dX6_init 6 rfl, ⟨mj_ade dX6_init 7 rfl, ⟨mj_ade dX6_init 8 rfl, rfl⟩⟩⟩ (show (([some (.ref 3)], [.int 4, .ref 3], MM 9 7 (fun _ _ => 0)) : mj_S) = ([some (.ref 3)], [.int 4, .ref 3], MM 9 7 (fun _ _ => 0)) from rfl) (fun S' h => ?_)
  subst h
  refine mj_newa_ok (t := 0) (N := 4) F (by decide) (mj_ade dX6_init 9 rfl) mw_ar0 (by decide) (by decide) (by decide) (Nat.le_of_ble_eq_true rfl) (fun _ => rfl) (fun _ => rfl) (Nat.le_of_ble_eq_true rfl) (Nat.le_of_ble_eq_true rfl) ?_
  show mj_Wg _ _ _ _ _ _ _ _ _ _ _ _ _ 6 968 _ 20 (([some (.ref 3)], [.ref 9, .ref 3], MM 10 7 (fun _ _ => 0)) : mj_S)
  refine mj_run_ok (pe := 26) (S := _) (K := fun S' => S' = (([some (.ref 3)], [.int 64, .ref 3], MM 10 8 (fun _ _ => 0)) : mj_S)) F [.putfield 18, .aload_n 0, .bipush 64] ⟨mj_ade dX6_init 10 rfl, ⟨mj_ade dX6_init 11 rfl, ⟨mj_ade dX6_init 12 rfl, rfl⟩⟩⟩ (show (([some (.ref 3)], [.int 64, .ref 3], MM 10 8 (fun _ _ => 0)) : mj_S) = ([some (.ref 3)], [.int 64, .ref 3], MM 10 8 (fun _ _ => 0)) from rfl) (fun S' h => ?_)
  subst h
  refine mj_newa_ok (t := 0) (N := 64) F (by decide) (mj_ade dX6_init 13 rfl) mw_ar0 (by decide) (by decide) (by decide) (Nat.le_of_ble_eq_true rfl) (fun _ => rfl) (fun _ => rfl) (Nat.le_of_ble_eq_true rfl) (Nat.le_of_ble_eq_true rfl) ?_
  show mj_Wg _ _ _ _ _ _ _ _ _ _ _ _ _ 7 1032 _ 28 (([some (.ref 3)], [.ref 10, .ref 3], MM 11 8 (fun _ _ => 0)) : mj_S)
  refine mj_run_ok (pe := 31) (S := _) (K := fun S' => S' = (([some (.ref 3)], [], MM 11 9 (fun _ _ => 0)) : mj_S)) F [.putfield 22] ⟨mj_ade dX6_init 14 rfl, rfl⟩ (show (([some (.ref 3)], [], MM 11 9 (fun _ _ => 0)) : mj_S) = ([some (.ref 3)], [], MM 11 9 (fun _ _ => 0)) from rfl) (fun S' h => ?_)
  subst h
  exact mj_ret_ok F (mj_ade dX6_init 15 rfl) ⟨rfl, rfl⟩
set_option maxRecDepth 100000 in
set_option maxHeartbeats 4000000 in
theorem ctX1_init_13 (Ω : mj_Om) (l : Launch) : mj_Met Ω l true mX1_init 1 1 7 [.ref 13] (MM 14 11 (fun _ _ => 0)) (fun r M' => r = none ∧ M' = MM 15 12 (fun _ _ => 0)) := by
  refine mj_entry (by decide) rfl (fun _ => rfl) (by decide) ?_
  intro p e s m args below meth c F
  show mj_Wg _ _ _ _ _ _ _ _ _ _ _ _ _ 0 0 _ 0 (([some (.ref 13)], [], MM 14 11 (fun _ _ => 0)) : mj_S)
  refine mj_run_ok (pe := 1) (S := _) (K := fun S' => S' = (([some (.ref 13)], [.ref 13], MM 14 11 (fun _ _ => 0)) : mj_S)) F [.aload_n 0] ⟨mj_ade dX1_init 0 rfl, rfl⟩ (show (([some (.ref 13)], [.ref 13], MM 14 11 (fun _ _ => 0)) : mj_S) = ([some (.ref 13)], [.ref 13], MM 14 11 (fun _ _ => 0)) from rfl) (fun S' h => ?_)
  subst h
  refine mj_obj_ok F (mj_ade dX1_init 1 rfl) mw_ol1 mw_oi mw_oc (Nat.le_of_ble_eq_true rfl) (Nat.le_of_ble_eq_true rfl) ?_
  show mj_Wg _ _ _ _ _ _ _ _ _ _ _ _ _ 0 0 _ 4 (([some (.ref 13)], [], MM 14 11 (fun _ _ => 0)) : mj_S)
  refine mj_run_ok (pe := 7) (S := _) (K := fun S' => S' = (([some (.ref 13)], [.int 7, .ref 13], MM 14 11 (fun _ _ => 0)) : mj_S)) F [.aload_n 0, .bipush 7] ⟨mj_ade dX1_init 2 rfl, ⟨mj_ade dX1_init 3 rfl, rfl⟩⟩ (show (([some (.ref 13)], [.int 7, .ref 13], MM 14 11 (fun _ _ => 0)) : mj_S) = ([some (.ref 13)], [.int 7, .ref 13], MM 14 11 (fun _ _ => 0)) from rfl) (fun S' h => ?_)
  subst h
  refine mj_newa_ok (t := 0) (N := 7) F (by decide) (mj_ade dX1_init 4 rfl) mw_ar0 (by decide) (by decide) (by decide) (Nat.le_of_ble_eq_true rfl) (fun _ => rfl) (fun _ => rfl) (Nat.le_of_ble_eq_true rfl) (Nat.le_of_ble_eq_true rfl) ?_
  show mj_Wg _ _ _ _ _ _ _ _ _ _ _ _ _ 1 7 _ 9 (([some (.ref 13)], [.ref 14, .ref 13], MM 15 11 (fun _ _ => 0)) : mj_S)
  refine mj_run_ok (pe := 12) (S := _) (K := fun S' => S' = (([some (.ref 13)], [], MM 15 12 (fun _ _ => 0)) : mj_S)) F [.putfield 9] ⟨mj_ade dX1_init 5 rfl, rfl⟩ (show (([some (.ref 13)], [], MM 15 12 (fun _ _ => 0)) : mj_S) = ([some (.ref 13)], [], MM 15 12 (fun _ _ => 0)) from rfl) (fun S' h => ?_)
  subst h
  exact mj_ret_ok F (mj_ade dX1_init 6 rfl) ⟨rfl, rfl⟩
set_option maxRecDepth 100000 in
set_option maxHeartbeats 4000000 in
theorem ctX3_init_15 (Ω : mj_Om) (l : Launch) : mj_Met Ω l true mX3_init 1 8 64 [.ref 15] (MM 16 13 (fun _ _ => 0)) (fun r M' => r = none ∧ M' = MM 24 21 (fun _ _ => 0)) := by
  refine mj_entry (by decide) rfl (fun _ => rfl) (by decide) ?_
  intro p e s m args below meth c F
  show mj_Wg _ _ _ _ _ _ _ _ _ _ _ _ _ 0 0 _ 0 (([some (.ref 15)], [], MM 16 13 (fun _ _ => 0)) : mj_S)
  refine mj_run_ok (pe := 1) (S := _) (K := fun S' => S' = (([some (.ref 15)], [.ref 15], MM 16 13 (fun _ _ => 0)) : mj_S)) F [.aload_n 0] ⟨mj_ade dX3_init 0 rfl, rfl⟩ (show (([some (.ref 15)], [.ref 15], MM 16 13 (fun _ _ => 0)) : mj_S) = ([some (.ref 15)], [.ref 15], MM 16 13 (fun _ _ => 0)) from rfl) (fun S' h => ?_)
  subst h
  refine mj_obj_ok F (mj_ade dX3_init 1 rfl) mw_ol3 mw_oi mw_oc (Nat.le_of_ble_eq_true rfl) (Nat.le_of_ble_eq_true rfl) ?_
  show mj_Wg _ _ _ _ _ _ _ _ _ _ _ _ _ 0 0 _ 4 (([some (.ref 15)], [], MM 16 13 (fun _ _ => 0)) : mj_S)
  refine mj_run_ok (pe := 7) (S := _) (K := fun S' => S' = (([some (.ref 15)], [.int 8, .ref 15], MM 16 13 (fun _ _ => 0)) : mj_S)) F [.aload_n 0, .bipush 8] ⟨mj_ade dX3_init 2 rfl, ⟨mj_ade dX3_init 3 rfl, rfl⟩⟩ (show (([some (.ref 15)], [.int 8, .ref 15], MM 16 13 (fun _ _ => 0)) : mj_S) = ([some (.ref 15)], [.int 8, .ref 15], MM 16 13 (fun _ _ => 0)) from rfl) (fun S' h => ?_)
  subst h
  refine mj_newa_ok (t := 0) (N := 8) F (by decide) (mj_ade dX3_init 4 rfl) mw_ar0 (by decide) (by decide) (by decide) (Nat.le_of_ble_eq_true rfl) (fun _ => rfl) (fun _ => rfl) (Nat.le_of_ble_eq_true rfl) (Nat.le_of_ble_eq_true rfl) ?_
  show mj_Wg _ _ _ _ _ _ _ _ _ _ _ _ _ 1 8 _ 9 (([some (.ref 15)], [.ref 16, .ref 15], MM 17 13 (fun _ _ => 0)) : mj_S)
  refine mj_run_ok (pe := 15) (S := _) (K := fun S' => S' = (([some (.ref 15)], [.int 8, .ref 15], MM 17 14 (fun _ _ => 0)) : mj_S)) F [.putfield 9, .aload_n 0, .bipush 8] ⟨mj_ade dX3_init 5 rfl, ⟨mj_ade dX3_init 6 rfl, ⟨mj_ade dX3_init 7 rfl, rfl⟩⟩⟩ (show (([some (.ref 15)], [.int 8, .ref 15], MM 17 14 (fun _ _ => 0)) : mj_S) = ([some (.ref 15)], [.int 8, .ref 15], MM 17 14 (fun _ _ => 0)) from rfl) (fun S' h => ?_)
  subst h
  refine mj_newa_ok (t := 0) (N := 8) F (by decide) (mj_ade dX3_init 8 rfl) mw_ar0 (by decide) (by decide) (by decide) (Nat.le_of_ble_eq_true rfl) (fun _ => rfl) (fun _ => rfl) (Nat.le_of_ble_eq_true rfl) (Nat.le_of_ble_eq_true rfl) ?_
  show mj_Wg _ _ _ _ _ _ _ _ _ _ _ _ _ 2 16 _ 17 (([some (.ref 15)], [.ref 17, .ref 15], MM 18 14 (fun _ _ => 0)) : mj_S)
  refine mj_run_ok (pe := 23) (S := _) (K := fun S' => S' = (([some (.ref 15)], [.int 8, .ref 15], MM 18 15 (fun _ _ => 0)) : mj_S)) F [.putfield 15, .aload_n 0, .bipush 8] ⟨mj_ade dX3_init 9 rfl, ⟨mj_ade dX3_init 10 rfl, ⟨mj_ade dX3_init 11 rfl, rfl⟩⟩⟩ (show (([some (.ref 15)], [.int 8, .ref 15], MM 18 15 (fun _ _ => 0)) : mj_S) = ([some (.ref 15)], [.int 8, .ref 15], MM 18 15 (fun _ _ => 0)) from rfl) (fun S' h => ?_)
  subst h
  refine mj_newa_ok (t := 0) (N := 8) F (by decide) (mj_ade dX3_init 12 rfl) mw_ar0 (by decide) (by decide) (by decide) (Nat.le_of_ble_eq_true rfl) (fun _ => rfl) (fun _ => rfl) (Nat.le_of_ble_eq_true rfl) (Nat.le_of_ble_eq_true rfl) ?_
  show mj_Wg _ _ _ _ _ _ _ _ _ _ _ _ _ 3 24 _ 25 (([some (.ref 15)], [.ref 18, .ref 15], MM 19 15 (fun _ _ => 0)) : mj_S)
  refine mj_run_ok (pe := 31) (S := _) (K := fun S' => S' = (([some (.ref 15)], [.int 8, .ref 15], MM 19 16 (fun _ _ => 0)) : mj_S)) F [.putfield 18, .aload_n 0, .bipush 8] ⟨mj_ade dX3_init 13 rfl, ⟨mj_ade dX3_init 14 rfl, ⟨mj_ade dX3_init 15 rfl, rfl⟩⟩⟩ (show (([some (.ref 15)], [.int 8, .ref 15], MM 19 16 (fun _ _ => 0)) : mj_S) = ([some (.ref 15)], [.int 8, .ref 15], MM 19 16 (fun _ _ => 0)) from rfl) (fun S' h => ?_)
  subst h
  refine mj_newa_ok (t := 0) (N := 8) F (by decide) (mj_ade dX3_init 16 rfl) mw_ar0 (by decide) (by decide) (by decide) (Nat.le_of_ble_eq_true rfl) (fun _ => rfl) (fun _ => rfl) (Nat.le_of_ble_eq_true rfl) (Nat.le_of_ble_eq_true rfl) ?_
  show mj_Wg _ _ _ _ _ _ _ _ _ _ _ _ _ 4 32 _ 33 (([some (.ref 15)], [.ref 19, .ref 15], MM 20 16 (fun _ _ => 0)) : mj_S)
  refine mj_run_ok (pe := 39) (S := _) (K := fun S' => S' = (([some (.ref 15)], [.int 8, .ref 15], MM 20 17 (fun _ _ => 0)) : mj_S)) F [.putfield 21, .aload_n 0, .bipush 8] ⟨mj_ade dX3_init 17 rfl, ⟨mj_ade dX3_init 18 rfl, ⟨mj_ade dX3_init 19 rfl, rfl⟩⟩⟩ (show (([some (.ref 15)], [.int 8, .ref 15], MM 20 17 (fun _ _ => 0)) : mj_S) = ([some (.ref 15)], [.int 8, .ref 15], MM 20 17 (fun _ _ => 0)) from rfl) (fun S' h => ?_)
  subst h
  refine mj_newa_ok (t := 0) (N := 8) F (by decide) (mj_ade dX3_init 20 rfl) mw_ar0 (by decide) (by decide) (by decide) (Nat.le_of_ble_eq_true rfl) (fun _ => rfl) (fun _ => rfl) (Nat.le_of_ble_eq_true rfl) (Nat.le_of_ble_eq_true rfl) ?_
  show mj_Wg _ _ _ _ _ _ _ _ _ _ _ _ _ 5 40 _ 41 (([some (.ref 15)], [.ref 20, .ref 15], MM 21 17 (fun _ _ => 0)) : mj_S)
  refine mj_run_ok (pe := 47) (S := _) (K := fun S' => S' = (([some (.ref 15)], [.int 8, .ref 15], MM 21 18 (fun _ _ => 0)) : mj_S)) F [.putfield 24, .aload_n 0, .bipush 8] ⟨mj_ade dX3_init 21 rfl, ⟨mj_ade dX3_init 22 rfl, ⟨mj_ade dX3_init 23 rfl, rfl⟩⟩⟩ (show (([some (.ref 15)], [.int 8, .ref 15], MM 21 18 (fun _ _ => 0)) : mj_S) = ([some (.ref 15)], [.int 8, .ref 15], MM 21 18 (fun _ _ => 0)) from rfl) (fun S' h => ?_)
  subst h
  refine mj_newa_ok (t := 0) (N := 8) F (by decide) (mj_ade dX3_init 24 rfl) mw_ar0 (by decide) (by decide) (by decide) (Nat.le_of_ble_eq_true rfl) (fun _ => rfl) (fun _ => rfl) (Nat.le_of_ble_eq_true rfl) (Nat.le_of_ble_eq_true rfl) ?_
  show mj_Wg _ _ _ _ _ _ _ _ _ _ _ _ _ 6 48 _ 49 (([some (.ref 15)], [.ref 21, .ref 15], MM 22 18 (fun _ _ => 0)) : mj_S)
  refine mj_run_ok (pe := 55) (S := _) (K := fun S' => S' = (([some (.ref 15)], [.int 8, .ref 15], MM 22 19 (fun _ _ => 0)) : mj_S)) F [.putfield 27, .aload_n 0, .bipush 8] ⟨mj_ade dX3_init 25 rfl, ⟨mj_ade dX3_init 26 rfl, ⟨mj_ade dX3_init 27 rfl, rfl⟩⟩⟩ (show (([some (.ref 15)], [.int 8, .ref 15], MM 22 19 (fun _ _ => 0)) : mj_S) = ([some (.ref 15)], [.int 8, .ref 15], MM 22 19 (fun _ _ => 0)) from rfl) (fun S' h => ?_)
  subst h
  refine mj_newa_ok (t := 0) (N := 8) F (by decide) (mj_ade dX3_init 28 rfl) mw_ar0 (by decide) (by decide) (by decide) (Nat.le_of_ble_eq_true rfl) (fun _ => rfl) (fun _ => rfl) (Nat.le_of_ble_eq_true rfl) (Nat.le_of_ble_eq_true rfl) ?_
  show mj_Wg _ _ _ _ _ _ _ _ _ _ _ _ _ 7 56 _ 57 (([some (.ref 15)], [.ref 22, .ref 15], MM 23 19 (fun _ _ => 0)) : mj_S)
  refine mj_run_ok (pe := 63) (S := _) (K := fun S' => S' = (([some (.ref 15)], [.int 8, .ref 15], MM 23 20 (fun _ _ => 0)) : mj_S)) F [.putfield 30, .aload_n 0, .bipush 8] ⟨mj_ade dX3_init 29 rfl, ⟨mj_ade dX3_init 30 rfl, ⟨mj_ade dX3_init 31 rfl, rfl⟩⟩⟩ (show (([some (.ref 15)], [.int 8, .ref 15], MM 23 20 (fun _ _ => 0)) : mj_S) = ([some (.ref 15)], [.int 8, .ref 15], MM 23 20 (fun _ _ => 0)) from rfl) (fun S' h => ?_)
  subst h
  refine mj_newa_ok (t := 0) (N := 8) F (by decide) (mj_ade dX3_init 32 rfl) mw_ar0 (by decide) (by decide) (by decide) (Nat.le_of_ble_eq_true rfl) (fun _ => rfl) (fun _ => rfl) (Nat.le_of_ble_eq_true rfl) (Nat.le_of_ble_eq_true rfl) ?_
  show mj_Wg _ _ _ _ _ _ _ _ _ _ _ _ _ 8 64 _ 65 (([some (.ref 15)], [.ref 23, .ref 15], MM 24 20 (fun _ _ => 0)) : mj_S)
  refine mj_run_ok (pe := 68) (S := _) (K := fun S' => S' = (([some (.ref 15)], [], MM 24 21 (fun _ _ => 0)) : mj_S)) F [.putfield 33] ⟨mj_ade dX3_init 33 rfl, rfl⟩ (show (([some (.ref 15)], [], MM 24 21 (fun _ _ => 0)) : mj_S) = ([some (.ref 15)], [], MM 24 21 (fun _ _ => 0)) from rfl) (fun S' h => ?_)
  subst h
  exact mj_ret_ok F (mj_ade dX3_init 34 rfl) ⟨rfl, rfl⟩
set_option maxRecDepth 100000 in
set_option maxHeartbeats 4000000 in
theorem ctX10_init_11 (Ω : mj_Om) (l : Launch) : mj_Met Ω l true mX10_init 2 12 89 [.ref 11, .ref 1] (MM 12 10 (fun _ _ => 0)) (fun r M' => r = none ∧ M' = MM 24 23 (fun _ _ => 0)) := by
  refine mj_entry (by decide) rfl (fun _ => rfl) (by decide) ?_
  intro p e s m args below meth c F
  show mj_Wg _ _ _ _ _ _ _ _ _ _ _ _ _ 0 0 _ 0 (([some (.ref 11), some (.ref 1)], [], MM 12 10 (fun _ _ => 0)) : mj_S)
  refine mj_run_ok (pe := 1) (S := _) (K := fun S' => S' = (([some (.ref 11), some (.ref 1)], [.ref 11], MM 12 10 (fun _ _ => 0)) : mj_S)) F [.aload_n 0] ⟨mj_ade dX10_init 0 rfl, rfl⟩ (show (([some (.ref 11), some (.ref 1)], [.ref 11], MM 12 10 (fun _ _ => 0)) : mj_S) = ([some (.ref 11), some (.ref 1)], [.ref 11], MM 12 10 (fun _ _ => 0)) from rfl) (fun S' h => ?_)
  subst h
  refine mj_obj_ok F (mj_ade dX10_init 1 rfl) mw_ol10 mw_oi mw_oc (Nat.le_of_ble_eq_true rfl) (Nat.le_of_ble_eq_true rfl) ?_
  show mj_Wg _ _ _ _ _ _ _ _ _ _ _ _ _ 0 0 _ 4 (([some (.ref 11), some (.ref 1)], [], MM 12 10 (fun _ _ => 0)) : mj_S)
  refine mj_run_ok (pe := 7) (S := _) (K := fun S' => S' = (([some (.ref 11), some (.ref 1)], [.int 7, .ref 11], MM 12 10 (fun _ _ => 0)) : mj_S)) F [.aload_n 0, .bipush 7] ⟨mj_ade dX10_init 2 rfl, ⟨mj_ade dX10_init 3 rfl, rfl⟩⟩ (show (([some (.ref 11), some (.ref 1)], [.int 7, .ref 11], MM 12 10 (fun _ _ => 0)) : mj_S) = ([some (.ref 11), some (.ref 1)], [.int 7, .ref 11], MM 12 10 (fun _ _ => 0)) from rfl) (fun S' h => ?_)
  subst h
  refine mj_newa_ok (t := 0) (N := 7) F (by decide) (mj_ade dX10_init 4 rfl) mw_ar0 (by decide) (by decide) (by decide) (Nat.le_of_ble_eq_true rfl) (fun _ => rfl) (fun _ => rfl) (Nat.le_of_ble_eq_true rfl) (Nat.le_of_ble_eq_true rfl) ?_
  show mj_Wg _ _ _ _ _ _ _ _ _ _ _ _ _ 1 7 _ 9 (([some (.ref 11), some (.ref 1)], [.ref 12, .ref 11], MM 13 10 (fun _ _ => 0)) : mj_S)
  refine mj_run_ok (pe := 13) (S := _) (K := fun S' => S' = (([some (.ref 11), some (.ref 1)], [.ref 11], MM 13 11 (fun _ _ => 0)) : mj_S)) F [.putfield 11, .aload_n 0] ⟨mj_ade dX10_init 5 rfl, ⟨mj_ade dX10_init 6 rfl, rfl⟩⟩ (show (([some (.ref 11), some (.ref 1)], [.ref 11], MM 13 11 (fun _ _ => 0)) : mj_S) = ([some (.ref 11), some (.ref 1)], [.ref 11], MM 13 11 (fun _ _ => 0)) from rfl) (fun S' h => ?_)
  subst h
  refine mj_new_ok (ci := 1) (q := (RX1, TX1, 1)) F (mj_ade dX10_init 7 rfl) rfl mw_cl10_9 mw_in1 mw_iz1 (Nat.le_of_ble_eq_true rfl) (fun _ => rfl) (fun _ => rfl) (fun _ => rfl) (Nat.le_of_ble_eq_true rfl) (Nat.le_of_ble_eq_true rfl) ?_
  show mj_Wg _ _ _ _ _ _ _ _ _ _ _ _ _ 2 8 _ 16 (([some (.ref 11), some (.ref 1)], [.ref 13, .ref 11], MM 14 11 (fun _ _ => 0)) : mj_S)
  refine mj_run_ok (pe := 17) (S := _) (K := fun S' => S' = (([some (.ref 11), some (.ref 1)], [.ref 13, .ref 13, .ref 11], MM 14 11 (fun _ _ => 0)) : mj_S)) F [.dup] ⟨mj_ade dX10_init 8 rfl, rfl⟩ (show (([some (.ref 11), some (.ref 1)], [.ref 13, .ref 13, .ref 11], MM 14 11 (fun _ _ => 0)) : mj_S) = ([some (.ref 11), some (.ref 1)], [.ref 13, .ref 13, .ref 11], MM 14 11 (fun _ _ => 0)) from rfl) (fun S' h => ?_)
  subst h
  refine mj_ctor_ok (d' := 1) (n := 0) (as := []) (a := 13) (host := "GunLine") F (mj_ade dX10_init 9 rfl) (ctX1_init_13 Ω l) fX1_init rfl rfl iX1_init (by decide +kernel) rfl (Or.inr mw_l10_17) ⟨Nat.le_of_ble_eq_true rfl, Nat.le_of_ble_eq_true rfl⟩ ⟨Nat.le_of_ble_eq_true rfl, Nat.le_of_ble_eq_true rfl⟩ (Nat.le_of_ble_eq_true rfl) (fun r M' h => ?_)
  obtain ⟨rfl, rfl⟩ := h
  show mj_Wg _ _ _ _ _ _ _ _ _ _ _ _ _ 3 15 _ 20 (([some (.ref 11), some (.ref 1)], [.ref 13, .ref 11], MM 15 12 (fun _ _ => 0)) : mj_S)
  refine mj_run_ok (pe := 24) (S := _) (K := fun S' => S' = (([some (.ref 11), some (.ref 1)], [.ref 11], MM 15 13 (fun _ _ => 0)) : mj_S)) F [.putfield 18, .aload_n 0] ⟨mj_ade dX10_init 10 rfl, ⟨mj_ade dX10_init 11 rfl, rfl⟩⟩ (show (([some (.ref 11), some (.ref 1)], [.ref 11], MM 15 13 (fun _ _ => 0)) : mj_S) = ([some (.ref 11), some (.ref 1)], [.ref 11], MM 15 13 (fun _ _ => 0)) from rfl) (fun S' h => ?_)
  subst h
  refine mj_new_ok (ci := 3) (q := (RX3, TX3, 10)) F (mj_ade dX10_init 12 rfl) rfl mw_cl10_22 mw_in3 mw_iz3 (Nat.le_of_ble_eq_true rfl) (fun _ => rfl) (fun _ => rfl) (fun _ => rfl) (Nat.le_of_ble_eq_true rfl) (Nat.le_of_ble_eq_true rfl) ?_
  show mj_Wg _ _ _ _ _ _ _ _ _ _ _ _ _ 4 25 _ 27 (([some (.ref 11), some (.ref 1)], [.ref 15, .ref 11], MM 16 13 (fun _ _ => 0)) : mj_S)
  refine mj_run_ok (pe := 28) (S := _) (K := fun S' => S' = (([some (.ref 11), some (.ref 1)], [.ref 15, .ref 15, .ref 11], MM 16 13 (fun _ _ => 0)) : mj_S)) F [.dup] ⟨mj_ade dX10_init 13 rfl, rfl⟩ (show (([some (.ref 11), some (.ref 1)], [.ref 15, .ref 15, .ref 11], MM 16 13 (fun _ _ => 0)) : mj_S) = ([some (.ref 11), some (.ref 1)], [.ref 15, .ref 15, .ref 11], MM 16 13 (fun _ _ => 0)) from rfl) (fun S' h => ?_)
  subst h
  refine mj_ctor_ok (d' := 1) (n := 0) (as := []) (a := 15) (host := "GunLine") F (mj_ade dX10_init 14 rfl) (ctX3_init_15 Ω l) fX3_init rfl rfl iX3_init (by decide +kernel) rfl (Or.inr mw_l10_24) ⟨Nat.le_of_ble_eq_true rfl, Nat.le_of_ble_eq_true rfl⟩ ⟨Nat.le_of_ble_eq_true rfl, Nat.le_of_ble_eq_true rfl⟩ (Nat.le_of_ble_eq_true rfl) (fun r M' h => ?_)
  obtain ⟨rfl, rfl⟩ := h
  show mj_Wg _ _ _ _ _ _ _ _ _ _ _ _ _ 12 89 _ 31 (([some (.ref 11), some (.ref 1)], [.ref 15, .ref 11], MM 24 21 (fun _ _ => 0)) : mj_S)
  refine mj_run_ok (pe := 39) (S := _) (K := fun S' => S' = (([some (.ref 11), some (.ref 1)], [], MM 24 23 (fun _ _ => 0)) : mj_S)) F [.putfield 25, .aload_n 0, .aload_n 1, .putfield 29] ⟨mj_ade dX10_init 15 rfl, ⟨mj_ade dX10_init 16 rfl, ⟨mj_ade dX10_init 17 rfl, ⟨mj_ade dX10_init 18 rfl, rfl⟩⟩⟩⟩ (show (([some (.ref 11), some (.ref 1)], [], MM 24 23 (fun _ _ => 0)) : mj_S) = ([some (.ref 11), some (.ref 1)], [], MM 24 23 (fun _ _ => 0)) from rfl) (fun S' h => ?_)
  subst h
  exact mj_ret_ok F (mj_ade dX10_init 19 rfl) ⟨rfl, rfl⟩
set_option maxRecDepth 100000 in
set_option maxHeartbeats 4000000 in
theorem ctX7_init_24 (Ω : mj_Om) (l : Launch) : mj_Met Ω l true mX7_init 1 1 240 [.ref 24, .ref 1] (MM 25 24 (fun _ _ => 0)) (fun r M' => r = none ∧ M' = MM 26 26 (fun _ _ => 0)) := by
  refine mj_entry (by decide) rfl (fun _ => rfl) (by decide) ?_
  intro p e s m args below meth c F
  show mj_Wg _ _ _ _ _ _ _ _ _ _ _ _ _ 0 0 _ 0 (([some (.ref 24), some (.ref 1)], [], MM 25 24 (fun _ _ => 0)) : mj_S)
  refine mj_run_ok (pe := 1) (S := _) (K := fun S' => S' = (([some (.ref 24), some (.ref 1)], [.ref 24], MM 25 24 (fun _ _ => 0)) : mj_S)) F [.aload_n 0] ⟨mj_ade dX7_init 0 rfl, rfl⟩ (show (([some (.ref 24), some (.ref 1)], [.ref 24], MM 25 24 (fun _ _ => 0)) : mj_S) = ([some (.ref 24), some (.ref 1)], [.ref 24], MM 25 24 (fun _ _ => 0)) from rfl) (fun S' h => ?_)
  subst h
  refine mj_obj_ok F (mj_ade dX7_init 1 rfl) mw_ol7 mw_oi mw_oc (Nat.le_of_ble_eq_true rfl) (Nat.le_of_ble_eq_true rfl) ?_
  show mj_Wg _ _ _ _ _ _ _ _ _ _ _ _ _ 0 0 _ 4 (([some (.ref 24), some (.ref 1)], [], MM 25 24 (fun _ _ => 0)) : mj_S)
  refine mj_run_ok (pe := 8) (S := _) (K := fun S' => S' = (([some (.ref 24), some (.ref 1)], [.int 240, .ref 24], MM 25 24 (fun _ _ => 0)) : mj_S)) F [.aload_n 0, .sipush 240] ⟨mj_ade dX7_init 2 rfl, ⟨mj_ade dX7_init 3 rfl, rfl⟩⟩ (show (([some (.ref 24), some (.ref 1)], [.int 240, .ref 24], MM 25 24 (fun _ _ => 0)) : mj_S) = ([some (.ref 24), some (.ref 1)], [.int 240, .ref 24], MM 25 24 (fun _ _ => 0)) from rfl) (fun S' h => ?_)
  subst h
  refine mj_newa_ok (t := 0) (N := 240) F (by decide) (mj_ade dX7_init 4 rfl) mw_ar0 (by decide) (by decide) (by decide) (Nat.le_of_ble_eq_true rfl) (fun _ => rfl) (fun _ => rfl) (Nat.le_of_ble_eq_true rfl) (Nat.le_of_ble_eq_true rfl) ?_
  show mj_Wg _ _ _ _ _ _ _ _ _ _ _ _ _ 1 240 _ 10 (([some (.ref 24), some (.ref 1)], [.ref 25, .ref 24], MM 26 24 (fun _ _ => 0)) : mj_S)
  refine mj_run_ok (pe := 18) (S := _) (K := fun S' => S' = (([some (.ref 24), some (.ref 1)], [], MM 26 26 (fun _ _ => 0)) : mj_S)) F [.putfield 11, .aload_n 0, .aload_n 1, .putfield 17] ⟨mj_ade dX7_init 5 rfl, ⟨mj_ade dX7_init 6 rfl, ⟨mj_ade dX7_init 7 rfl, ⟨mj_ade dX7_init 8 rfl, rfl⟩⟩⟩⟩ (show (([some (.ref 24), some (.ref 1)], [], MM 26 26 (fun _ _ => 0)) : mj_S) = ([some (.ref 24), some (.ref 1)], [], MM 26 26 (fun _ _ => 0)) from rfl) (fun S' h => ?_)
  subst h
  exact mj_ret_ok F (mj_ade dX7_init 9 rfl) ⟨rfl, rfl⟩
set_option maxRecDepth 100000 in
set_option maxHeartbeats 4000000 in
theorem ctX1_init_26 (Ω : mj_Om) (l : Launch) : mj_Met Ω l true mX1_init 1 1 7 [.ref 26] (MM 27 27 (fun _ _ => 0)) (fun r M' => r = none ∧ M' = MM 28 28 (fun _ _ => 0)) := by
  refine mj_entry (by decide) rfl (fun _ => rfl) (by decide) ?_
  intro p e s m args below meth c F
  show mj_Wg _ _ _ _ _ _ _ _ _ _ _ _ _ 0 0 _ 0 (([some (.ref 26)], [], MM 27 27 (fun _ _ => 0)) : mj_S)
  refine mj_run_ok (pe := 1) (S := _) (K := fun S' => S' = (([some (.ref 26)], [.ref 26], MM 27 27 (fun _ _ => 0)) : mj_S)) F [.aload_n 0] ⟨mj_ade dX1_init 0 rfl, rfl⟩ (show (([some (.ref 26)], [.ref 26], MM 27 27 (fun _ _ => 0)) : mj_S) = ([some (.ref 26)], [.ref 26], MM 27 27 (fun _ _ => 0)) from rfl) (fun S' h => ?_)
  subst h
  refine mj_obj_ok F (mj_ade dX1_init 1 rfl) mw_ol1 mw_oi mw_oc (Nat.le_of_ble_eq_true rfl) (Nat.le_of_ble_eq_true rfl) ?_
  show mj_Wg _ _ _ _ _ _ _ _ _ _ _ _ _ 0 0 _ 4 (([some (.ref 26)], [], MM 27 27 (fun _ _ => 0)) : mj_S)
  refine mj_run_ok (pe := 7) (S := _) (K := fun S' => S' = (([some (.ref 26)], [.int 7, .ref 26], MM 27 27 (fun _ _ => 0)) : mj_S)) F [.aload_n 0, .bipush 7] ⟨mj_ade dX1_init 2 rfl, ⟨mj_ade dX1_init 3 rfl, rfl⟩⟩ (show (([some (.ref 26)], [.int 7, .ref 26], MM 27 27 (fun _ _ => 0)) : mj_S) = ([some (.ref 26)], [.int 7, .ref 26], MM 27 27 (fun _ _ => 0)) from rfl) (fun S' h => ?_)
  subst h
  refine mj_newa_ok (t := 0) (N := 7) F (by decide) (mj_ade dX1_init 4 rfl) mw_ar0 (by decide) (by decide) (by decide) (Nat.le_of_ble_eq_true rfl) (fun _ => rfl) (fun _ => rfl) (Nat.le_of_ble_eq_true rfl) (Nat.le_of_ble_eq_true rfl) ?_
  show mj_Wg _ _ _ _ _ _ _ _ _ _ _ _ _ 1 7 _ 9 (([some (.ref 26)], [.ref 27, .ref 26], MM 28 27 (fun _ _ => 0)) : mj_S)
  refine mj_run_ok (pe := 12) (S := _) (K := fun S' => S' = (([some (.ref 26)], [], MM 28 28 (fun _ _ => 0)) : mj_S)) F [.putfield 9] ⟨mj_ade dX1_init 5 rfl, rfl⟩ (show (([some (.ref 26)], [], MM 28 28 (fun _ _ => 0)) : mj_S) = ([some (.ref 26)], [], MM 28 28 (fun _ _ => 0)) from rfl) (fun S' h => ?_)
  subst h
  exact mj_ret_ok F (mj_ade dX1_init 6 rfl) ⟨rfl, rfl⟩
set_option maxRecDepth 100000 in
set_option maxHeartbeats 4000000 in
theorem ctX1_init_28 (Ω : mj_Om) (l : Launch) : mj_Met Ω l true mX1_init 1 1 7 [.ref 28] (MM 29 29 (fun _ _ => 0)) (fun r M' => r = none ∧ M' = MM 30 30 (fun _ _ => 0)) := by
  refine mj_entry (by decide) rfl (fun _ => rfl) (by decide) ?_
  intro p e s m args below meth c F
  show mj_Wg _ _ _ _ _ _ _ _ _ _ _ _ _ 0 0 _ 0 (([some (.ref 28)], [], MM 29 29 (fun _ _ => 0)) : mj_S)
  refine mj_run_ok (pe := 1) (S := _) (K := fun S' => S' = (([some (.ref 28)], [.ref 28], MM 29 29 (fun _ _ => 0)) : mj_S)) F [.aload_n 0] ⟨mj_ade dX1_init 0 rfl, rfl⟩ (show (([some (.ref 28)], [.ref 28], MM 29 29 (fun _ _ => 0)) : mj_S) = ([some (.ref 28)], [.ref 28], MM 29 29 (fun _ _ => 0)) from rfl) (fun S' h => ?_)
  subst h
  refine mj_obj_ok F (mj_ade dX1_init 1 rfl) mw_ol1 mw_oi mw_oc (Nat.le_of_ble_eq_true rfl) (Nat.le_of_ble_eq_true rfl) ?_
  show mj_Wg _ _ _ _ _ _ _ _ _ _ _ _ _ 0 0 _ 4 (([some (.ref 28)], [], MM 29 29 (fun _ _ => 0)) : mj_S)
  refine mj_run_ok (pe := 7) (S := _) (K := fun S' => S' = (([some (.ref 28)], [.int 7, .ref 28], MM 29 29 (fun _ _ => 0)) : mj_S)) F [.aload_n 0, .bipush 7] ⟨mj_ade dX1_init 2 rfl, ⟨mj_ade dX1_init 3 rfl, rfl⟩⟩ (show (([some (.ref 28)], [.int 7, .ref 28], MM 29 29 (fun _ _ => 0)) : mj_S) = ([some (.ref 28)], [.int 7, .ref 28], MM 29 29 (fun _ _ => 0)) from rfl) (fun S' h => ?_)
  subst h
  refine mj_newa_ok (t := 0) (N := 7) F (by decide) (mj_ade dX1_init 4 rfl) mw_ar0 (by decide) (by decide) (by decide) (Nat.le_of_ble_eq_true rfl) (fun _ => rfl) (fun _ => rfl) (Nat.le_of_ble_eq_true rfl) (Nat.le_of_ble_eq_true rfl) ?_
  show mj_Wg _ _ _ _ _ _ _ _ _ _ _ _ _ 1 7 _ 9 (([some (.ref 28)], [.ref 29, .ref 28], MM 30 29 (fun _ _ => 0)) : mj_S)
  refine mj_run_ok (pe := 12) (S := _) (K := fun S' => S' = (([some (.ref 28)], [], MM 30 30 (fun _ _ => 0)) : mj_S)) F [.putfield 9] ⟨mj_ade dX1_init 5 rfl, rfl⟩ (show (([some (.ref 28)], [], MM 30 30 (fun _ _ => 0)) : mj_S) = ([some (.ref 28)], [], MM 30 30 (fun _ _ => 0)) from rfl) (fun S' h => ?_)
  subst h
  exact mj_ret_ok F (mj_ade dX1_init 6 rfl) ⟨rfl, rfl⟩
set_option maxRecDepth 100000 in
set_option maxHeartbeats 4000000 in
theorem ctX3_init_30 (Ω : mj_Om) (l : Launch) : mj_Met Ω l true mX3_init 1 8 64 [.ref 30] (MM 31 31 (fun _ _ => 0)) (fun r M' => r = none ∧ M' = MM 39 39 (fun _ _ => 0)) := by
  refine mj_entry (by decide) rfl (fun _ => rfl) (by decide) ?_
  intro p e s m args below meth c F
  show mj_Wg _ _ _ _ _ _ _ _ _ _ _ _ _ 0 0 _ 0 (([some (.ref 30)], [], MM 31 31 (fun _ _ => 0)) : mj_S)
  refine mj_run_ok (pe := 1) (S := _) (K := fun S' => S' = (([some (.ref 30)], [.ref 30], MM 31 31 (fun _ _ => 0)) : mj_S)) F [.aload_n 0] ⟨mj_ade dX3_init 0 rfl, rfl⟩ (show (([some (.ref 30)], [.ref 30], MM 31 31 (fun _ _ => 0)) : mj_S) = ([some (.ref 30)], [.ref 30], MM 31 31 (fun _ _ => 0)) from rfl) (fun S' h => ?_)
  subst h
  refine mj_obj_ok F (mj_ade dX3_init 1 rfl) mw_ol3 mw_oi mw_oc (Nat.le_of_ble_eq_true rfl) (Nat.le_of_ble_eq_true rfl) ?_
  show mj_Wg _ _ _ _ _ _ _ _ _ _ _ _ _ 0 0 _ 4 (([some (.ref 30)], [], MM 31 31 (fun _ _ => 0)) : mj_S)
  refine mj_run_ok (pe := 7) (S := _) (K := fun S' => S' = (([some (.ref 30)], [.int 8, .ref 30], MM 31 31 (fun _ _ => 0)) : mj_S)) F [.aload_n 0, .bipush 8] ⟨mj_ade dX3_init 2 rfl, ⟨mj_ade dX3_init 3 rfl, rfl⟩⟩ (show (([some (.ref 30)], [.int 8, .ref 30], MM 31 31 (fun _ _ => 0)) : mj_S) = ([some (.ref 30)], [.int 8, .ref 30], MM 31 31 (fun _ _ => 0)) from rfl) (fun S' h => ?_)
  subst h
  refine mj_newa_ok (t := 0) (N := 8) F (by decide) (mj_ade dX3_init 4 rfl) mw_ar0 (by decide) (by decide) (by decide) (Nat.le_of_ble_eq_true rfl) (fun _ => rfl) (fun _ => rfl) (Nat.le_of_ble_eq_true rfl) (Nat.le_of_ble_eq_true rfl) ?_
  show mj_Wg _ _ _ _ _ _ _ _ _ _ _ _ _ 1 8 _ 9 (([some (.ref 30)], [.ref 31, .ref 30], MM 32 31 (fun _ _ => 0)) : mj_S)
  refine mj_run_ok (pe := 15) (S := _) (K := fun S' => S' = (([some (.ref 30)], [.int 8, .ref 30], MM 32 32 (fun _ _ => 0)) : mj_S)) F [.putfield 9, .aload_n 0, .bipush 8] ⟨mj_ade dX3_init 5 rfl, ⟨mj_ade dX3_init 6 rfl, ⟨mj_ade dX3_init 7 rfl, rfl⟩⟩⟩ (show (([some (.ref 30)], [.int 8, .ref 30], MM 32 32 (fun _ _ => 0)) : mj_S) = ([some (.ref 30)], [.int 8, .ref 30], MM 32 32 (fun _ _ => 0)) from rfl) (fun S' h => ?_)
  subst h
  refine mj_newa_ok (t := 0) (N := 8) F (by decide) (mj_ade dX3_init 8 rfl) mw_ar0 (by decide) (by decide) (by decide) (Nat.le_of_ble_eq_true rfl) (fun _ => rfl) (fun _ => rfl) (Nat.le_of_ble_eq_true rfl) (Nat.le_of_ble_eq_true rfl) ?_
  show mj_Wg _ _ _ _ _ _ _ _ _ _ _ _ _ 2 16 _ 17 (([some (.ref 30)], [.ref 32, .ref 30], MM 33 32 (fun _ _ => 0)) : mj_S)
  refine mj_run_ok (pe := 23) (S := _) (K := fun S' => S' = (([some (.ref 30)], [.int 8, .ref 30], MM 33 33 (fun _ _ => 0)) : mj_S)) F [.putfield 15, .aload_n 0, .bipush 8] ⟨mj_ade dX3_init 9 rfl, ⟨mj_ade dX3_init 10 rfl, ⟨mj_ade dX3_init 11 rfl, rfl⟩⟩⟩ (show (([some (.ref 30)], [.int 8, .ref 30], MM 33 33 (fun _ _ => 0)) : mj_S) = ([some (.ref 30)], [.int 8, .ref 30], MM 33 33 (fun _ _ => 0)) from rfl) (fun S' h => ?_)
  subst h
  refine mj_newa_ok (t := 0) (N := 8) F (by decide) (mj_ade dX3_init 12 rfl) mw_ar0 (by decide) (by decide) (by decide) (Nat.le_of_ble_eq_true rfl) (fun _ => rfl) (fun _ => rfl) (Nat.le_of_ble_eq_true rfl) (Nat.le_of_ble_eq_true rfl) ?_
  show mj_Wg _ _ _ _ _ _ _ _ _ _ _ _ _ 3 24 _ 25 (([some (.ref 30)], [.ref 33, .ref 30], MM 34 33 (fun _ _ => 0)) : mj_S)
  refine mj_run_ok (pe := 31) (S := _) (K := fun S' => S' = (([some (.ref 30)], [.int 8, .ref 30], MM 34 34 (fun _ _ => 0)) : mj_S)) F [.putfield 18, .aload_n 0, .bipush 8] ⟨mj_ade dX3_init 13 rfl, ⟨mj_ade dX3_init 14 rfl, ⟨mj_ade dX3_init 15 rfl, rfl⟩⟩⟩ (show (([some (.ref 30)], [.int 8, .ref 30], MM 34 34 (fun _ _ => 0)) : mj_S) = ([some (.ref 30)], [.int 8, .ref 30], MM 34 34 (fun _ _ => 0)) from rfl) (fun S' h => ?_)
  subst h
  refine mj_newa_ok (t := 0) (N := 8) F (by decide) (mj_ade dX3_init 16 rfl) mw_ar0 (by decide) (by decide) (by decide) (Nat.le_of_ble_eq_true rfl) (fun _ => rfl) (fun _ => rfl) (Nat.le_of_ble_eq_true rfl) (Nat.le_of_ble_eq_true rfl) ?_
  show mj_Wg _ _ _ _ _ _ _ _ _ _ _ _ _ 4 32 _ 33 (([some (.ref 30)], [.ref 34, .ref 30], MM 35 34 (fun _ _ => 0)) : mj_S)
  refine mj_run_ok (pe := 39) (S := _) (K := fun S' => S' = (([some (.ref 30)], [.int 8, .ref 30], MM 35 35 (fun _ _ => 0)) : mj_S)) F [.putfield 21, .aload_n 0, .bipush 8] ⟨mj_ade dX3_init 17 rfl, ⟨mj_ade dX3_init 18 rfl, ⟨mj_ade dX3_init 19 rfl, rfl⟩⟩⟩ (show (([some (.ref 30)], [.int 8, .ref 30], MM 35 35 (fun _ _ => 0)) : mj_S) = ([some (.ref 30)], [.int 8, .ref 30], MM 35 35 (fun _ _ => 0)) from rfl) (fun S' h => ?_)
  subst h
  refine mj_newa_ok (t := 0) (N := 8) F (by decide) (mj_ade dX3_init 20 rfl) mw_ar0 (by decide) (by decide) (by decide) (Nat.le_of_ble_eq_true rfl) (fun _ => rfl) (fun _ => rfl) (Nat.le_of_ble_eq_true rfl) (Nat.le_of_ble_eq_true rfl) ?_
  show mj_Wg _ _ _ _ _ _ _ _ _ _ _ _ _ 5 40 _ 41 (([some (.ref 30)], [.ref 35, .ref 30], MM 36 35 (fun _ _ => 0)) : mj_S)
  refine mj_run_ok (pe := 47) (S := _) (K := fun S' => S' = (([some (.ref 30)], [.int 8, .ref 30], MM 36 36 (fun _ _ => 0)) : mj_S)) F [.putfield 24, .aload_n 0, .bipush 8] ⟨mj_ade dX3_init 21 rfl, ⟨mj_ade dX3_init 22 rfl, ⟨mj_ade dX3_init 23 rfl, rfl⟩⟩⟩ (show (([some (.ref 30)], [.int 8, .ref 30], MM 36 36 (fun _ _ => 0)) : mj_S) = ([some (.ref 30)], [.int 8, .ref 30], MM 36 36 (fun _ _ => 0)) from rfl) (fun S' h => ?_)
  subst h
  refine mj_newa_ok (t := 0) (N := 8) F (by decide) (mj_ade dX3_init 24 rfl) mw_ar0 (by decide) (by decide) (by decide) (Nat.le_of_ble_eq_true rfl) (fun _ => rfl) (fun _ => rfl) (Nat.le_of_ble_eq_true rfl) (Nat.le_of_ble_eq_true rfl) ?_
  show mj_Wg _ _ _ _ _ _ _ _ _ _ _ _ _ 6 48 _ 49 (([some (.ref 30)], [.ref 36, .ref 30], MM 37 36 (fun _ _ => 0)) : mj_S)
  refine mj_run_ok (pe := 55) (S := _) (K := fun S' => S' = (([some (.ref 30)], [.int 8, .ref 30], MM 37 37 (fun _ _ => 0)) : mj_S)) F [.putfield 27, .aload_n 0, .bipush 8] ⟨mj_ade dX3_init 25 rfl, ⟨mj_ade dX3_init 26 rfl, ⟨mj_ade dX3_init 27 rfl, rfl⟩⟩⟩ (show (([some (.ref 30)], [.int 8, .ref 30], MM 37 37 (fun _ _ => 0)) : mj_S) = ([some (.ref 30)], [.int 8, .ref 30], MM 37 37 (fun _ _ => 0)) from rfl) (fun S' h => ?_)
  subst h
  refine mj_newa_ok (t := 0) (N := 8) F (by decide) (mj_ade dX3_init 28 rfl) mw_ar0 (by decide) (by decide) (by decide) (Nat.le_of_ble_eq_true rfl) (fun _ => rfl) (fun _ => rfl) (Nat.le_of_ble_eq_true rfl) (Nat.le_of_ble_eq_true rfl) ?_
  show mj_Wg _ _ _ _ _ _ _ _ _ _ _ _ _ 7 56 _ 57 (([some (.ref 30)], [.ref 37, .ref 30], MM 38 37 (fun _ _ => 0)) : mj_S)
  refine mj_run_ok (pe := 63) (S := _) (K := fun S' => S' = (([some (.ref 30)], [.int 8, .ref 30], MM 38 38 (fun _ _ => 0)) : mj_S)) F [.putfield 30, .aload_n 0, .bipush 8] ⟨mj_ade dX3_init 29 rfl, ⟨mj_ade dX3_init 30 rfl, ⟨mj_ade dX3_init 31 rfl, rfl⟩⟩⟩ (show (([some (.ref 30)], [.int 8, .ref 30], MM 38 38 (fun _ _ => 0)) : mj_S) = ([some (.ref 30)], [.int 8, .ref 30], MM 38 38 (fun _ _ => 0)) from rfl) (fun S' h => ?_)
  subst h
  refine mj_newa_ok (t := 0) (N := 8) F (by decide) (mj_ade dX3_init 32 rfl) mw_ar0 (by decide) (by decide) (by decide) (Nat.le_of_ble_eq_true rfl) (fun _ => rfl) (fun _ => rfl) (Nat.le_of_ble_eq_true rfl) (Nat.le_of_ble_eq_true rfl) ?_
  show mj_Wg _ _ _ _ _ _ _ _ _ _ _ _ _ 8 64 _ 65 (([some (.ref 30)], [.ref 38, .ref 30], MM 39 38 (fun _ _ => 0)) : mj_S)
  refine mj_run_ok (pe := 68) (S := _) (K := fun S' => S' = (([some (.ref 30)], [], MM 39 39 (fun _ _ => 0)) : mj_S)) F [.putfield 33] ⟨mj_ade dX3_init 33 rfl, rfl⟩ (show (([some (.ref 30)], [], MM 39 39 (fun _ _ => 0)) : mj_S) = ([some (.ref 30)], [], MM 39 39 (fun _ _ => 0)) from rfl) (fun S' h => ?_)
  subst h
  exact mj_ret_ok F (mj_ade dX3_init 34 rfl) ⟨rfl, rfl⟩
set_option maxRecDepth 100000 in
set_option maxHeartbeats 4000000 in
theorem ctX3_init_39 (Ω : mj_Om) (l : Launch) : mj_Met Ω l true mX3_init 1 8 64 [.ref 39] (MM 40 40 (fun _ _ => 0)) (fun r M' => r = none ∧ M' = MM 48 48 (fun _ _ => 0)) := by
  refine mj_entry (by decide) rfl (fun _ => rfl) (by decide) ?_
  intro p e s m args below meth c F
  show mj_Wg _ _ _ _ _ _ _ _ _ _ _ _ _ 0 0 _ 0 (([some (.ref 39)], [], MM 40 40 (fun _ _ => 0)) : mj_S)
  refine mj_run_ok (pe := 1) (S := _) (K := fun S' => S' = (([some (.ref 39)], [.ref 39], MM 40 40 (fun _ _ => 0)) : mj_S)) F [.aload_n 0] ⟨mj_ade dX3_init 0 rfl, rfl⟩ (show (([some (.ref 39)], [.ref 39], MM 40 40 (fun _ _ => 0)) : mj_S) = ([some (.ref 39)], [.ref 39], MM 40 40 (fun _ _ => 0)) from rfl) (fun S' h => ?_)
  subst h
  refine mj_obj_ok F (mj_ade dX3_init 1 rfl) mw_ol3 mw_oi mw_oc (Nat.le_of_ble_eq_true rfl) (Nat.le_of_ble_eq_true rfl) ?_
  show mj_Wg _ _ _ _ _ _ _ _ _ _ _ _ _ 0 0 _ 4 (([some (.ref 39)], [], MM 40 40 (fun _ _ => 0)) : mj_S)
  refine mj_run_ok (pe := 7) (S := _) (K := fun S' => S' = (([some (.ref 39)], [.int 8, .ref 39], MM 40 40 (fun _ _ => 0)) : mj_S)) F [.aload_n 0, .bipush 8] ⟨mj_ade dX3_init 2 rfl, ⟨mj_ade dX3_init 3 rfl, rfl⟩⟩ (show (([some (.ref 39)], [.int 8, .ref 39], MM 40 40 (fun _ _ => 0)) : mj_S) = ([some (.ref 39)], [.int 8, .ref 39], MM 40 40 (fun _ _ => 0)) from rfl) (fun S' h => ?_)
  subst h
  refine mj_newa_ok (t := 0) (N := 8) F (by decide) (mj_ade dX3_init 4 rfl) mw_ar0 (by decide) (by decide) (by decide) (Nat.le_of_ble_eq_true rfl) (fun _ => rfl) (fun _ => rfl) (Nat.le_of_ble_eq_true rfl) (Nat.le_of_ble_eq_true rfl) ?_
  show mj_Wg _ _ _ _ _ _ _ _ _ _ _ _ _ 1 8 _ 9 (([some (.ref 39)], [.ref 40, .ref 39], MM 41 40 (fun _ _ => 0)) : mj_S)
  refine mj_run_ok (pe := 15) (S := _) (K := fun S' => S' = (([some (.ref 39)], [.int 8, .ref 39], MM 41 41 (fun _ _ => 0)) : mj_S)) F [.putfield 9, .aload_n 0, .bipush 8] ⟨mj_ade dX3_init 5 rfl, ⟨mj_ade dX3_init 6 rfl, ⟨mj_ade dX3_init 7 rfl, rfl⟩⟩⟩ (show (([some (.ref 39)], [.int 8, .ref 39], MM 41 41 (fun _ _ => 0)) : mj_S) = ([some (.ref 39)], [.int 8, .ref 39], MM 41 41 (fun _ _ => 0)) from rfl) (fun S' h => ?_)
  subst h
  refine mj_newa_ok (t := 0) (N := 8) F (by decide) (mj_ade dX3_init 8 rfl) mw_ar0 (by decide) (by decide) (by decide) (Nat.le_of_ble_eq_true rfl) (fun _ => rfl) (fun _ => rfl) (Nat.le_of_ble_eq_true rfl) (Nat.le_of_ble_eq_true rfl) ?_
  show mj_Wg _ _ _ _ _ _ _ _ _ _ _ _ _ 2 16 _ 17 (([some (.ref 39)], [.ref 41, .ref 39], MM 42 41 (fun _ _ => 0)) : mj_S)
  refine mj_run_ok (pe := 23) (S := _) (K := fun S' => S' = (([some (.ref 39)], [.int 8, .ref 39], MM 42 42 (fun _ _ => 0)) : mj_S)) F [.putfield 15, .aload_n 0, .bipush 8] ⟨mj_ade dX3_init 9 rfl, ⟨mj_ade dX3_init 10 rfl, ⟨mj_ade dX3_init 11 rfl, rfl⟩⟩⟩ (show (([some (.ref 39)], [.int 8, .ref 39], MM 42 42 (fun _ _ => 0)) : mj_S) = ([some (.ref 39)], [.int 8, .ref 39], MM 42 42 (fun _ _ => 0)) from rfl) (fun S' h => ?_)
  subst h
  refine mj_newa_ok (t := 0) (N := 8) F (by decide) (mj_ade dX3_init 12 rfl) mw_ar0 (by decide) (by decide) (by decide) (Nat.le_of_ble_eq_true rfl) (fun _ => rfl) (fun _ => rfl) (Nat.le_of_ble_eq_true rfl) (Nat.le_of_ble_eq_true rfl) ?_
  show mj_Wg _ _ _ _ _ _ _ _ _ _ _ _ _ 3 24 _ 25 (([some (.ref 39)], [.ref 42, .ref 39], MM 43 42 (fun _ _ => 0)) : mj_S)
  refine mj_run_ok (pe := 31) (S := _) (K := fun S' => S' = (([some (.ref 39)], [.int 8, .ref 39], MM 43 43 (fun _ _ => 0)) : mj_S)) F [.putfield 18, .aload_n 0, .bipush 8] ⟨mj_ade dX3_init 13 rfl, ⟨mj_ade dX3_init 14 rfl, ⟨mj_ade dX3_init 15 rfl, rfl⟩⟩⟩ (show (([some (.ref 39)], [.int 8, .ref 39], MM 43 43 (fun _ _ => 0)) : mj_S) = ([some (.ref 39)], [.int 8, .ref 39], MM 43 43 (fun _ _ => 0)) from rfl) (fun S' h => ?_)
  subst h
  refine mj_newa_ok (t := 0) (N := 8) F (by decide) (mj_ade dX3_init 16 rfl) mw_ar0 (by decide) (by decide) (by decide) (Nat.le_of_ble_eq_true rfl) (fun _ => rfl) (fun _ => rfl) (Nat.le_of_ble_eq_true rfl) (Nat.le_of_ble_eq_true rfl) ?_
  show mj_Wg _ _ _ _ _ _ _ _ _ _ _ _ _ 4 32 _ 33 (([some (.ref 39)], [.ref 43, .ref 39], MM 44 43 (fun _ _ => 0)) : mj_S)
  refine mj_run_ok (pe := 39) (S := _) (K := fun S' => S' = (([some (.ref 39)], [.int 8, .ref 39], MM 44 44 (fun _ _ => 0)) : mj_S)) F [.putfield 21, .aload_n 0, .bipush 8] ⟨mj_ade dX3_init 17 rfl, ⟨mj_ade dX3_init 18 rfl, ⟨mj_ade dX3_init 19 rfl, rfl⟩⟩⟩ (show (([some (.ref 39)], [.int 8, .ref 39], MM 44 44 (fun _ _ => 0)) : mj_S) = ([some (.ref 39)], [.int 8, .ref 39], MM 44 44 (fun _ _ => 0)) from rfl) (fun S' h => ?_)
  subst h
  refine mj_newa_ok (t := 0) (N := 8) F (by decide) (mj_ade dX3_init 20 rfl) mw_ar0 (by decide) (by decide) (by decide) (Nat.le_of_ble_eq_true rfl) (fun _ => rfl) (fun _ => rfl) (Nat.le_of_ble_eq_true rfl) (Nat.le_of_ble_eq_true rfl) ?_
  show mj_Wg _ _ _ _ _ _ _ _ _ _ _ _ _ 5 40 _ 41 (([some (.ref 39)], [.ref 44, .ref 39], MM 45 44 (fun _ _ => 0)) : mj_S)
  refine mj_run_ok (pe := 47) (S := _) (K := fun S' => S' = (([some (.ref 39)], [.int 8, .ref 39], MM 45 45 (fun _ _ => 0)) : mj_S)) F [.putfield 24, .aload_n 0, .bipush 8] ⟨mj_ade dX3_init 21 rfl, ⟨mj_ade dX3_init 22 rfl, ⟨mj_ade dX3_init 23 rfl, rfl⟩⟩⟩ (show (([some (.ref 39)], [.int 8, .ref 39], MM 45 45 (fun _ _ => 0)) : mj_S) = ([some (.ref 39)], [.int 8, .ref 39], MM 45 45 (fun _ _ => 0)) from rfl) (fun S' h => ?_)
  subst h
  refine mj_newa_ok (t := 0) (N := 8) F (by decide) (mj_ade dX3_init 24 rfl) mw_ar0 (by decide) (by decide) (by decide) (Nat.le_of_ble_eq_true rfl) (fun _ => rfl) (fun _ => rfl) (Nat.le_of_ble_eq_true rfl) (Nat.le_of_ble_eq_true rfl) ?_
  show mj_Wg _ _ _ _ _ _ _ _ _ _ _ _ _ 6 48 _ 49 (([some (.ref 39)], [.ref 45, .ref 39], MM 46 45 (fun _ _ => 0)) : mj_S)
  refine mj_run_ok (pe := 55) (S := _) (K := fun S' => S' = (([some (.ref 39)], [.int 8, .ref 39], MM 46 46 (fun _ _ => 0)) : mj_S)) F [.putfield 27, .aload_n 0, .bipush 8] ⟨mj_ade dX3_init 25 rfl, ⟨mj_ade dX3_init 26 rfl, ⟨mj_ade dX3_init 27 rfl, rfl⟩⟩⟩ (show (([some (.ref 39)], [.int 8, .ref 39], MM 46 46 (fun _ _ => 0)) : mj_S) = ([some (.ref 39)], [.int 8, .ref 39], MM 46 46 (fun _ _ => 0)) from rfl) (fun S' h => ?_)
  subst h
  refine mj_newa_ok (t := 0) (N := 8) F (by decide) (mj_ade dX3_init 28 rfl) mw_ar0 (by decide) (by decide) (by decide) (Nat.le_of_ble_eq_true rfl) (fun _ => rfl) (fun _ => rfl) (Nat.le_of_ble_eq_true rfl) (Nat.le_of_ble_eq_true rfl) ?_
  show mj_Wg _ _ _ _ _ _ _ _ _ _ _ _ _ 7 56 _ 57 (([some (.ref 39)], [.ref 46, .ref 39], MM 47 46 (fun _ _ => 0)) : mj_S)
  refine mj_run_ok (pe := 63) (S := _) (K := fun S' => S' = (([some (.ref 39)], [.int 8, .ref 39], MM 47 47 (fun _ _ => 0)) : mj_S)) F [.putfield 30, .aload_n 0, .bipush 8] ⟨mj_ade dX3_init 29 rfl, ⟨mj_ade dX3_init 30 rfl, ⟨mj_ade dX3_init 31 rfl, rfl⟩⟩⟩ (show (([some (.ref 39)], [.int 8, .ref 39], MM 47 47 (fun _ _ => 0)) : mj_S) = ([some (.ref 39)], [.int 8, .ref 39], MM 47 47 (fun _ _ => 0)) from rfl) (fun S' h => ?_)
  subst h
  refine mj_newa_ok (t := 0) (N := 8) F (by decide) (mj_ade dX3_init 32 rfl) mw_ar0 (by decide) (by decide) (by decide) (Nat.le_of_ble_eq_true rfl) (fun _ => rfl) (fun _ => rfl) (Nat.le_of_ble_eq_true rfl) (Nat.le_of_ble_eq_true rfl) ?_
  show mj_Wg _ _ _ _ _ _ _ _ _ _ _ _ _ 8 64 _ 65 (([some (.ref 39)], [.ref 47, .ref 39], MM 48 47 (fun _ _ => 0)) : mj_S)
  refine mj_run_ok (pe := 68) (S := _) (K := fun S' => S' = (([some (.ref 39)], [], MM 48 48 (fun _ _ => 0)) : mj_S)) F [.putfield 33] ⟨mj_ade dX3_init 33 rfl, rfl⟩ (show (([some (.ref 39)], [], MM 48 48 (fun _ _ => 0)) : mj_S) = ([some (.ref 39)], [], MM 48 48 (fun _ _ => 0)) from rfl) (fun S' h => ?_)
  subst h
  exact mj_ret_ok F (mj_ade dX3_init 34 rfl) ⟨rfl, rfl⟩
set_option maxRecDepth 100000 in
set_option maxHeartbeats 4000000 in
theorem ctX3_init_48 (Ω : mj_Om) (l : Launch) : mj_Met Ω l true mX3_init 1 8 64 [.ref 48] (MM 49 49 (fun _ _ => 0)) (fun r M' => r = none ∧ M' = MM 57 57 (fun _ _ => 0)) := by
  refine mj_entry (by decide) rfl (fun _ => rfl) (by decide) ?_
  intro p e s m args below meth c F
  show mj_Wg _ _ _ _ _ _ _ _ _ _ _ _ _ 0 0 _ 0 (([some (.ref 48)], [], MM 49 49 (fun _ _ => 0)) : mj_S)
  refine mj_run_ok (pe := 1) (S := _) (K := fun S' => S' = (([some (.ref 48)], [.ref 48], MM 49 49 (fun _ _ => 0)) : mj_S)) F [.aload_n 0] ⟨mj_ade dX3_init 0 rfl, rfl⟩ (show (([some (.ref 48)], [.ref 48], MM 49 49 (fun _ _ => 0)) : mj_S) = ([some (.ref 48)], [.ref 48], MM 49 49 (fun _ _ => 0)) from rfl) (fun S' h => ?_)
  subst h
  refine mj_obj_ok F (mj_ade dX3_init 1 rfl) mw_ol3 mw_oi mw_oc (Nat.le_of_ble_eq_true rfl) (Nat.le_of_ble_eq_true rfl) ?_
  show mj_Wg _ _ _ _ _ _ _ _ _ _ _ _ _ 0 0 _ 4 (([some (.ref 48)], [], MM 49 49 (fun _ _ => 0)) : mj_S)
  refine mj_run_ok (pe := 7) (S := _) (K := fun S' => S' = (([some (.ref 48)], [.int 8, .ref 48], MM 49 49 (fun _ _ => 0)) : mj_S)) F [.aload_n 0, .bipush 8] ⟨mj_ade dX3_init 2 rfl, ⟨mj_ade dX3_init 3 rfl, rfl⟩⟩ (show (([some (.ref 48)], [.int 8, .ref 48], MM 49 49 (fun _ _ => 0)) : mj_S) = ([some (.ref 48)], [.int 8, .ref 48], MM 49 49 (fun _ _ => 0)) from rfl) (fun S' h => ?_)
  subst h
  refine mj_newa_ok (t := 0) (N := 8) F (by decide) (mj_ade dX3_init 4 rfl) mw_ar0 (by decide) (by decide) (by decide) (Nat.le_of_ble_eq_true rfl) (fun _ => rfl) (fun _ => rfl) (Nat.le_of_ble_eq_true rfl) (Nat.le_of_ble_eq_true rfl) ?_
  show mj_Wg _ _ _ _ _ _ _ _ _ _ _ _ _ 1 8 _ 9 (([some (.ref 48)], [.ref 49, .ref 48], MM 50 49 (fun _ _ => 0)) : mj_S)
  refine mj_run_ok (pe := 15) (S := _) (K := fun S' => S' = (([some (.ref 48)], [.int 8, .ref 48], MM 50 50 (fun _ _ => 0)) : mj_S)) F [.putfield 9, .aload_n 0, .bipush 8] ⟨mj_ade dX3_init 5 rfl, ⟨mj_ade dX3_init 6 rfl, ⟨mj_ade dX3_init 7 rfl, rfl⟩⟩⟩ (show (([some (.ref 48)], [.int 8, .ref 48], MM 50 50 (fun _ _ => 0)) : mj_S) = ([some (.ref 48)], [.int 8, .ref 48], MM 50 50 (fun _ _ => 0)) from rfl) (fun S' h => ?_)
  subst h
  refine mj_newa_ok (t := 0) (N := 8) F (by decide) (mj_ade dX3_init 8 rfl) mw_ar0 (by decide) (by decide) (by decide) (Nat.le_of_ble_eq_true rfl) (fun _ => rfl) (fun _ => rfl) (Nat.le_of_ble_eq_true rfl) (Nat.le_of_ble_eq_true rfl) ?_
  show mj_Wg _ _ _ _ _ _ _ _ _ _ _ _ _ 2 16 _ 17 (([some (.ref 48)], [.ref 50, .ref 48], MM 51 50 (fun _ _ => 0)) : mj_S)
  refine mj_run_ok (pe := 23) (S := _) (K := fun S' => S' = (([some (.ref 48)], [.int 8, .ref 48], MM 51 51 (fun _ _ => 0)) : mj_S)) F [.putfield 15, .aload_n 0, .bipush 8] ⟨mj_ade dX3_init 9 rfl, ⟨mj_ade dX3_init 10 rfl, ⟨mj_ade dX3_init 11 rfl, rfl⟩⟩⟩ (show (([some (.ref 48)], [.int 8, .ref 48], MM 51 51 (fun _ _ => 0)) : mj_S) = ([some (.ref 48)], [.int 8, .ref 48], MM 51 51 (fun _ _ => 0)) from rfl) (fun S' h => ?_)
  subst h
  refine mj_newa_ok (t := 0) (N := 8) F (by decide) (mj_ade dX3_init 12 rfl) mw_ar0 (by decide) (by decide) (by decide) (Nat.le_of_ble_eq_true rfl) (fun _ => rfl) (fun _ => rfl) (Nat.le_of_ble_eq_true rfl) (Nat.le_of_ble_eq_true rfl) ?_
  show mj_Wg _ _ _ _ _ _ _ _ _ _ _ _ _ 3 24 _ 25 (([some (.ref 48)], [.ref 51, .ref 48], MM 52 51 (fun _ _ => 0)) : mj_S)
  refine mj_run_ok (pe := 31) (S := _) (K := fun S' => S' = (([some (.ref 48)], [.int 8, .ref 48], MM 52 52 (fun _ _ => 0)) : mj_S)) F [.putfield 18, .aload_n 0, .bipush 8] ⟨mj_ade dX3_init 13 rfl, ⟨mj_ade dX3_init 14 rfl, ⟨mj_ade dX3_init 15 rfl, rfl⟩⟩⟩ (show (([some (.ref 48)], [.int 8, .ref 48], MM 52 52 (fun _ _ => 0)) : mj_S) = ([some (.ref 48)], [.int 8, .ref 48], MM 52 52 (fun _ _ => 0)) from rfl) (fun S' h => ?_)
  subst h
  refine mj_newa_ok (t := 0) (N := 8) F (by decide) (mj_ade dX3_init 16 rfl) mw_ar0 (by decide) (by decide) (by decide) (Nat.le_of_ble_eq_true rfl) (fun _ => rfl) (fun _ => rfl) (Nat.le_of_ble_eq_true rfl) (Nat.le_of_ble_eq_true rfl) ?_
  show mj_Wg _ _ _ _ _ _ _ _ _ _ _ _ _ 4 32 _ 33 (([some (.ref 48)], [.ref 52, .ref 48], MM 53 52 (fun _ _ => 0)) : mj_S)
  refine mj_run_ok (pe := 39) (S := _) (K := fun S' => S' = (([some (.ref 48)], [.int 8, .ref 48], MM 53 53 (fun _ _ => 0)) : mj_S)) F [.putfield 21, .aload_n 0, .bipush 8] ⟨mj_ade dX3_init 17 rfl, ⟨mj_ade dX3_init 18 rfl, ⟨mj_ade dX3_init 19 rfl, rfl⟩⟩⟩ (show (([some (.ref 48)], [.int 8, .ref 48], MM 53 53 (fun _ _ => 0)) : mj_S) = ([some (.ref 48)], [.int 8, .ref 48], MM 53 53 (fun _ _ => 0)) from rfl) (fun S' h => ?_)
  subst h
  refine mj_newa_ok (t := 0) (N := 8) F (by decide) (mj_ade dX3_init 20 rfl) mw_ar0 (by decide) (by decide) (by decide) (Nat.le_of_ble_eq_true rfl) (fun _ => rfl) (fun _ => rfl) (Nat.le_of_ble_eq_true rfl) (Nat.le_of_ble_eq_true rfl) ?_
  show mj_Wg _ _ _ _ _ _ _ _ _ _ _ _ _ 5 40 _ 41 (([some (.ref 48)], [.ref 53, .ref 48], MM 54 53 (fun _ _ => 0)) : mj_S)
  refine mj_run_ok (pe := 47) (S := _) (K := fun S' => S' = (([some (.ref 48)], [.int 8, .ref 48], MM 54 54 (fun _ _ => 0)) : mj_S)) F [.putfield 24, .aload_n 0, .bipush 8] ⟨mj_ade dX3_init 21 rfl, ⟨mj_ade dX3_init 22 rfl, ⟨mj_ade dX3_init 23 rfl, rfl⟩⟩⟩ (show (([some (.ref 48)], [.int 8, .ref 48], MM 54 54 (fun _ _ => 0)) : mj_S) = ([some (.ref 48)], [.int 8, .ref 48], MM 54 54 (fun _ _ => 0)) from rfl) (fun S' h => ?_)
  subst h
  refine mj_newa_ok (t := 0) (N := 8) F (by decide) (mj_ade dX3_init 24 rfl) mw_ar0 (by decide) (by decide) (by decide) (Nat.le_of_ble_eq_true rfl) (fun _ => rfl) (fun _ => rfl) (Nat.le_of_ble_eq_true rfl) (Nat.le_of_ble_eq_true rfl) ?_
  show mj_Wg _ _ _ _ _ _ _ _ _ _ _ _ _ 6 48 _ 49 (([some (.ref 48)], [.ref 54, .ref 48], MM 55 54 (fun _ _ => 0)) : mj_S)
  refine mj_run_ok (pe := 55) (S := _) (K := fun S' => S' = (([some (.ref 48)], [.int 8, .ref 48], MM 55 55 (fun _ _ => 0)) : mj_S)) F [.putfield 27, .aload_n 0, .bipush 8] ⟨mj_ade dX3_init 25 rfl, ⟨mj_ade dX3_init 26 rfl, ⟨mj_ade dX3_init 27 rfl, rfl⟩⟩⟩ (show (([some (.ref 48)], [.int 8, .ref 48], MM 55 55 (fun _ _ => 0)) : mj_S) = ([some (.ref 48)], [.int 8, .ref 48], MM 55 55 (fun _ _ => 0)) from rfl) (fun S' h => ?_)
  subst h
  refine mj_newa_ok (t := 0) (N := 8) F (by decide) (mj_ade dX3_init 28 rfl) mw_ar0 (by decide) (by decide) (by decide) (Nat.le_of_ble_eq_true rfl) (fun _ => rfl) (fun _ => rfl) (Nat.le_of_ble_eq_true rfl) (Nat.le_of_ble_eq_true rfl) ?_
  show mj_Wg _ _ _ _ _ _ _ _ _ _ _ _ _ 7 56 _ 57 (([some (.ref 48)], [.ref 55, .ref 48], MM 56 55 (fun _ _ => 0)) : mj_S)
  refine mj_run_ok (pe := 63) (S := _) (K := fun S' => S' = (([some (.ref 48)], [.int 8, .ref 48], MM 56 56 (fun _ _ => 0)) : mj_S)) F [.putfield 30, .aload_n 0, .bipush 8] ⟨mj_ade dX3_init 29 rfl, ⟨mj_ade dX3_init 30 rfl, ⟨mj_ade dX3_init 31 rfl, rfl⟩⟩⟩ (show (([some (.ref 48)], [.int 8, .ref 48], MM 56 56 (fun _ _ => 0)) : mj_S) = ([some (.ref 48)], [.int 8, .ref 48], MM 56 56 (fun _ _ => 0)) from rfl) (fun S' h => ?_)
  subst h
  refine mj_newa_ok (t := 0) (N := 8) F (by decide) (mj_ade dX3_init 32 rfl) mw_ar0 (by decide) (by decide) (by decide) (Nat.le_of_ble_eq_true rfl) (fun _ => rfl) (fun _ => rfl) (Nat.le_of_ble_eq_true rfl) (Nat.le_of_ble_eq_true rfl) ?_
  show mj_Wg _ _ _ _ _ _ _ _ _ _ _ _ _ 8 64 _ 65 (([some (.ref 48)], [.ref 56, .ref 48], MM 57 56 (fun _ _ => 0)) : mj_S)
  refine mj_run_ok (pe := 68) (S := _) (K := fun S' => S' = (([some (.ref 48)], [], MM 57 57 (fun _ _ => 0)) : mj_S)) F [.putfield 33] ⟨mj_ade dX3_init 33 rfl, rfl⟩ (show (([some (.ref 48)], [], MM 57 57 (fun _ _ => 0)) : mj_S) = ([some (.ref 48)], [], MM 57 57 (fun _ _ => 0)) from rfl) (fun S' h => ?_)
  subst h
  exact mj_ret_ok F (mj_ade dX3_init 34 rfl) ⟨rfl, rfl⟩
set_option maxRecDepth 100000 in
set_option maxHeartbeats 4000000 in
theorem ctX3_init_57 (Ω : mj_Om) (l : Launch) : mj_Met Ω l true mX3_init 1 8 64 [.ref 57] (MM 58 58 (fun _ _ => 0)) (fun r M' => r = none ∧ M' = MM 66 66 (fun _ _ => 0)) := by
  refine mj_entry (by decide) rfl (fun _ => rfl) (by decide) ?_
  intro p e s m args below meth c F
  show mj_Wg _ _ _ _ _ _ _ _ _ _ _ _ _ 0 0 _ 0 (([some (.ref 57)], [], MM 58 58 (fun _ _ => 0)) : mj_S)
  refine mj_run_ok (pe := 1) (S := _) (K := fun S' => S' = (([some (.ref 57)], [.ref 57], MM 58 58 (fun _ _ => 0)) : mj_S)) F [.aload_n 0] ⟨mj_ade dX3_init 0 rfl, rfl⟩ (show (([some (.ref 57)], [.ref 57], MM 58 58 (fun _ _ => 0)) : mj_S) = ([some (.ref 57)], [.ref 57], MM 58 58 (fun _ _ => 0)) from rfl) (fun S' h => ?_)
  subst h
  refine mj_obj_ok F (mj_ade dX3_init 1 rfl) mw_ol3 mw_oi mw_oc (Nat.le_of_ble_eq_true rfl) (Nat.le_of_ble_eq_true rfl) ?_
  show mj_Wg _ _ _ _ _ _ _ _ _ _ _ _ _ 0 0 _ 4 (([some (.ref 57)], [], MM 58 58 (fun _ _ => 0)) : mj_S)
  refine mj_run_ok (pe := 7) (S := _) (K := fun S' => S' = (([some (.ref 57)], [.int 8, .ref 57], MM 58 58 (fun _ _ => 0)) : mj_S)) F [.aload_n 0, .bipush 8] ⟨mj_ade dX3_init 2 rfl, ⟨mj_ade dX3_init 3 rfl, rfl⟩⟩ (show (([some (.ref 57)], [.int 8, .ref 57], MM 58 58 (fun _ _ => 0)) : mj_S) = ([some (.ref 57)], [.int 8, .ref 57], MM 58 58 (fun _ _ => 0)) from rfl) (fun S' h => ?_)
  subst h
  refine mj_newa_ok (t := 0) (N := 8) F (by decide) (mj_ade dX3_init 4 rfl) mw_ar0 (by decide) (by decide) (by decide) (Nat.le_of_ble_eq_true rfl) (fun _ => rfl) (fun _ => rfl) (Nat.le_of_ble_eq_true rfl) (Nat.le_of_ble_eq_true rfl) ?_
  show mj_Wg _ _ _ _ _ _ _ _ _ _ _ _ _ 1 8 _ 9 (([some (.ref 57)], [.ref 58, .ref 57], MM 59 58 (fun _ _ => 0)) : mj_S)
  refine mj_run_ok (pe := 15) (S := _) (K := fun S' => S' = (([some (.ref 57)], [.int 8, .ref 57], MM 59 59 (fun _ _ => 0)) : mj_S)) F [.putfield 9, .aload_n 0, .bipush 8] ⟨mj_ade dX3_init 5 rfl, ⟨mj_ade dX3_init 6 rfl, ⟨mj_ade dX3_init 7 rfl, rfl⟩⟩⟩ (show (([some (.ref 57)], [.int 8, .ref 57], MM 59 59 (fun _ _ => 0)) : mj_S) = ([some (.ref 57)], [.int 8, .ref 57], MM 59 59 (fun _ _ => 0)) from rfl) (fun S' h => ?_)
  subst h
  refine mj_newa_ok (t := 0) (N := 8) F (by decide) (mj_ade dX3_init 8 rfl) mw_ar0 (by decide) (by decide) (by decide) (Nat.le_of_ble_eq_true rfl) (fun _ => rfl) (fun _ => rfl) (Nat.le_of_ble_eq_true rfl) (Nat.le_of_ble_eq_true rfl) ?_
  show mj_Wg _ _ _ _ _ _ _ _ _ _ _ _ _ 2 16 _ 17 (([some (.ref 57)], [.ref 59, .ref 57], MM 60 59 (fun _ _ => 0)) : mj_S)
  refine mj_run_ok (pe := 23) (S := _) (K := fun S' => S' = (([some (.ref 57)], [.int 8, .ref 57], MM 60 60 (fun _ _ => 0)) : mj_S)) F [.putfield 15, .aload_n 0, .bipush 8] ⟨mj_ade dX3_init 9 rfl, ⟨mj_ade dX3_init 10 rfl, ⟨mj_ade dX3_init 11 rfl, rfl⟩⟩⟩ (show (([some (.ref 57)], [.int 8, .ref 57], MM 60 60 (fun _ _ => 0)) : mj_S) = ([some (.ref 57)], [.int 8, .ref 57], MM 60 60 (fun _ _ => 0)) from rfl) (fun S' h => ?_)
  subst h
  refine mj_newa_ok (t := 0) (N := 8) F (by decide) (mj_ade dX3_init 12 rfl) mw_ar0 (by decide) (by decide) (by decide) (Nat.le_of_ble_eq_true rfl) (fun _ => rfl) (fun _ => rfl) (Nat.le_of_ble_eq_true rfl) (Nat.le_of_ble_eq_true rfl) ?_
  show mj_Wg _ _ _ _ _ _ _ _ _ _ _ _ _ 3 24 _ 25 (([some (.ref 57)], [.ref 60, .ref 57], MM 61 60 (fun _ _ => 0)) : mj_S)
  refine mj_run_ok (pe := 31) (S := _) (K := fun S' => S' = (([some (.ref 57)], [.int 8, .ref 57], MM 61 61 (fun _ _ => 0)) : mj_S)) F [.putfield 18, .aload_n 0, .bipush 8] ⟨mj_ade dX3_init 13 rfl, ⟨mj_ade dX3_init 14 rfl, ⟨mj_ade dX3_init 15 rfl, rfl⟩⟩⟩ (show (([some (.ref 57)], [.int 8, .ref 57], MM 61 61 (fun _ _ => 0)) : mj_S) = ([some (.ref 57)], [.int 8, .ref 57], MM 61 61 (fun _ _ => 0)) from rfl) (fun S' h => ?_)
  subst h
  refine mj_newa_ok (t := 0) (N := 8) F (by decide) (mj_ade dX3_init 16 rfl) mw_ar0 (by decide) (by decide) (by decide) (Nat.le_of_ble_eq_true rfl) (fun _ => rfl) (fun _ => rfl) (Nat.le_of_ble_eq_true rfl) (Nat.le_of_ble_eq_true rfl) ?_
  show mj_Wg _ _ _ _ _ _ _ _ _ _ _ _ _ 4 32 _ 33 (([some (.ref 57)], [.ref 61, .ref 57], MM 62 61 (fun _ _ => 0)) : mj_S)
  refine mj_run_ok (pe := 39) (S := _) (K := fun S' => S' = (([some (.ref 57)], [.int 8, .ref 57], MM 62 62 (fun _ _ => 0)) : mj_S)) F [.putfield 21, .aload_n 0, .bipush 8] ⟨mj_ade dX3_init 17 rfl, ⟨mj_ade dX3_init 18 rfl, ⟨mj_ade dX3_init 19 rfl, rfl⟩⟩⟩ (show (([some (.ref 57)], [.int 8, .ref 57], MM 62 62 (fun _ _ => 0)) : mj_S) = ([some (.ref 57)], [.int 8, .ref 57], MM 62 62 (fun _ _ => 0)) from rfl) (fun S' h => ?_)
  subst h
  refine mj_newa_ok (t := 0) (N := 8) F (by decide) (mj_ade dX3_init 20 rfl) mw_ar0 (by decide) (by decide) (by decide) (Nat.le_of_ble_eq_true rfl) (fun _ => rfl) (fun _ => rfl) (Nat.le_of_ble_eq_true rfl) (Nat.le_of_ble_eq_true rfl) ?_
  show mj_Wg _ _ _ _ _ _ _ _ _ _ _ _ _ 5 40 _ 41 (([some (.ref 57)], [.ref 62, .ref 57], MM 63 62 (fun _ _ => 0)) : mj_S)
  refine mj_run_ok (pe := 47) (S := _) (K := fun S' => S' = (([some (.ref 57)], [.int 8, .ref 57], MM 63 63 (fun _ _ => 0)) : mj_S)) F [.putfield 24, .aload_n 0, .bipush 8] ⟨mj_ade dX3_init 21 rfl, ⟨mj_ade dX3_init 22 rfl, ⟨mj_ade dX3_init 23 rfl, rfl⟩⟩⟩ (show (([some (.ref 57)], [.int 8, .ref 57], MM 63 63 (fun _ _ => 0)) : mj_S) = ([some (.ref 57)], [.int 8, .ref 57], MM 63 63 (fun _ _ => 0)) from rfl) (fun S' h => ?_)
  subst h
  refine mj_newa_ok (t := 0) (N := 8) F (by decide) (mj_ade dX3_init 24 rfl) mw_ar0 (by decide) (by decide) (by decide) (Nat.le_of_ble_eq_true rfl) (fun _ => rfl) (fun _ => rfl) (Nat.le_of_ble_eq_true rfl) (Nat.le_of_ble_eq_true rfl) ?_
  show mj_Wg _ _ _ _ _ _ _ _ _ _ _ _ _ 6 48 _ 49 (([some (.ref 57)], [.ref 63, .ref 57], MM 64 63 (fun _ _ => 0)) : mj_S)
  refine mj_run_ok (pe := 55) (S := _) (K := fun S' => S' = (([some (.ref 57)], [.int 8, .ref 57], MM 64 64 (fun _ _ => 0)) : mj_S)) F [.putfield 27, .aload_n 0, .bipush 8] ⟨mj_ade dX3_init 25 rfl, ⟨mj_ade dX3_init 26 rfl, ⟨mj_ade dX3_init 27 rfl, rfl⟩⟩⟩ (show (([some (.ref 57)], [.int 8, .ref 57], MM 64 64 (fun _ _ => 0)) : mj_S) = ([some (.ref 57)], [.int 8, .ref 57], MM 64 64 (fun _ _ => 0)) from rfl) (fun S' h => ?_)
  subst h
  refine mj_newa_ok (t := 0) (N := 8) F (by decide) (mj_ade dX3_init 28 rfl) mw_ar0 (by decide) (by decide) (by decide) (Nat.le_of_ble_eq_true rfl) (fun _ => rfl) (fun _ => rfl) (Nat.le_of_ble_eq_true rfl) (Nat.le_of_ble_eq_true rfl) ?_
  show mj_Wg _ _ _ _ _ _ _ _ _ _ _ _ _ 7 56 _ 57 (([some (.ref 57)], [.ref 64, .ref 57], MM 65 64 (fun _ _ => 0)) : mj_S)
  refine mj_run_ok (pe := 63) (S := _) (K := fun S' => S' = (([some (.ref 57)], [.int 8, .ref 57], MM 65 65 (fun _ _ => 0)) : mj_S)) F [.putfield 30, .aload_n 0, .bipush 8] ⟨mj_ade dX3_init 29 rfl, ⟨mj_ade dX3_init 30 rfl, ⟨mj_ade dX3_init 31 rfl, rfl⟩⟩⟩ (show (([some (.ref 57)], [.int 8, .ref 57], MM 65 65 (fun _ _ => 0)) : mj_S) = ([some (.ref 57)], [.int 8, .ref 57], MM 65 65 (fun _ _ => 0)) from rfl) (fun S' h => ?_)
  subst h
  refine mj_newa_ok (t := 0) (N := 8) F (by decide) (mj_ade dX3_init 32 rfl) mw_ar0 (by decide) (by decide) (by decide) (Nat.le_of_ble_eq_true rfl) (fun _ => rfl) (fun _ => rfl) (Nat.le_of_ble_eq_true rfl) (Nat.le_of_ble_eq_true rfl) ?_
  show mj_Wg _ _ _ _ _ _ _ _ _ _ _ _ _ 8 64 _ 65 (([some (.ref 57)], [.ref 65, .ref 57], MM 66 65 (fun _ _ => 0)) : mj_S)
  refine mj_run_ok (pe := 68) (S := _) (K := fun S' => S' = (([some (.ref 57)], [], MM 66 66 (fun _ _ => 0)) : mj_S)) F [.putfield 33] ⟨mj_ade dX3_init 33 rfl, rfl⟩ (show (([some (.ref 57)], [], MM 66 66 (fun _ _ => 0)) : mj_S) = ([some (.ref 57)], [], MM 66 66 (fun _ _ => 0)) from rfl) (fun S' h => ?_)
  subst h
  exact mj_ret_ok F (mj_ade dX3_init 34 rfl) ⟨rfl, rfl⟩
set_option maxRecDepth 100000 in
set_option maxHeartbeats 4000000 in
theorem ctX3_init_66 (Ω : mj_Om) (l : Launch) : mj_Met Ω l true mX3_init 1 8 64 [.ref 66] (MM 67 67 (fun _ _ => 0)) (fun r M' => r = none ∧ M' = MM 75 75 (fun _ _ => 0)) := by
  refine mj_entry (by decide) rfl (fun _ => rfl) (by decide) ?_
  intro p e s m args below meth c F
  show mj_Wg _ _ _ _ _ _ _ _ _ _ _ _ _ 0 0 _ 0 (([some (.ref 66)], [], MM 67 67 (fun _ _ => 0)) : mj_S)
  refine mj_run_ok (pe := 1) (S := _) (K := fun S' => S' = (([some (.ref 66)], [.ref 66], MM 67 67 (fun _ _ => 0)) : mj_S)) F [.aload_n 0] ⟨mj_ade dX3_init 0 rfl, rfl⟩ (show (([some (.ref 66)], [.ref 66], MM 67 67 (fun _ _ => 0)) : mj_S) = ([some (.ref 66)], [.ref 66], MM 67 67 (fun _ _ => 0)) from rfl) (fun S' h => ?_)
  subst h
  refine mj_obj_ok F (mj_ade dX3_init 1 rfl) mw_ol3 mw_oi mw_oc (Nat.le_of_ble_eq_true rfl) (Nat.le_of_ble_eq_true rfl) ?_
  show mj_Wg _ _ _ _ _ _ _ _ _ _ _ _ _ 0 0 _ 4 (([some (.ref 66)], [], MM 67 67 (fun _ _ => 0)) : mj_S)
  refine mj_run_ok (pe := 7) (S := _) (K := fun S' => S' = (([some (.ref 66)], [.int 8, .ref 66], MM 67 67 (fun _ _ => 0)) : mj_S)) F [.aload_n 0, .bipush 8] ⟨mj_ade dX3_init 2 rfl, ⟨mj_ade dX3_init 3 rfl, rfl⟩⟩ (show (([some (.ref 66)], [.int 8, .ref 66], MM 67 67 (fun _ _ => 0)) : mj_S) = ([some (.ref 66)], [.int 8, .ref 66], MM 67 67 (fun _ _ => 0)) from rfl) (fun S' h => ?_)
  subst h
  refine mj_newa_ok (t := 0) (N := 8) F (by decide) (mj_ade dX3_init 4 rfl) mw_ar0 (by decide) (by decide) (by decide) (Nat.le_of_ble_eq_true rfl) (fun _ => rfl) (fun _ => rfl) (Nat.le_of_ble_eq_true rfl) (Nat.le_of_ble_eq_true rfl) ?_
  show mj_Wg _ _ _ _ _ _ _ _ _ _ _ _ _ 1 8 _ 9 (([some (.ref 66)], [.ref 67, .ref 66], MM 68 67 (fun _ _ => 0)) : mj_S)
  refine mj_run_ok (pe := 15) (S := _) (K := fun S' => S' = (([some (.ref 66)], [.int 8, .ref 66], MM 68 68 (fun _ _ => 0)) : mj_S)) F [.putfield 9, .aload_n 0, .bipush 8] ⟨mj_ade dX3_init 5 rfl, ⟨mj_ade dX3_init 6 rfl, ⟨mj_ade dX3_init 7 rfl, rfl⟩⟩⟩ (show (([some (.ref 66)], [.int 8, .ref 66], MM 68 68 (fun _ _ => 0)) : mj_S) = ([some (.ref 66)], [.int 8, .ref 66], MM 68 68 (fun _ _ => 0)) from rfl) (fun S' h => ?_)
  subst h
  refine mj_newa_ok (t := 0) (N := 8) F (by decide) (mj_ade dX3_init 8 rfl) mw_ar0 (by decide) (by decide) (by decide) (Nat.le_of_ble_eq_true rfl) (fun _ => rfl) (fun _ => rfl) (Nat.le_of_ble_eq_true rfl) (Nat.le_of_ble_eq_true rfl) ?_
  show mj_Wg _ _ _ _ _ _ _ _ _ _ _ _ _ 2 16 _ 17 (([some (.ref 66)], [.ref 68, .ref 66], MM 69 68 (fun _ _ => 0)) : mj_S)
  refine mj_run_ok (pe := 23) (S := _) (K := fun S' => S' = (([some (.ref 66)], [.int 8, .ref 66], MM 69 69 (fun _ _ => 0)) : mj_S)) F [.putfield 15, .aload_n 0, .bipush 8] ⟨mj_ade dX3_init 9 rfl, ⟨mj_ade dX3_init 10 rfl, ⟨mj_ade dX3_init 11 rfl, rfl⟩⟩⟩ (show (([some (.ref 66)], [.int 8, .ref 66], MM 69 69 (fun _ _ => 0)) : mj_S) = ([some (.ref 66)], [.int 8, .ref 66], MM 69 69 (fun _ _ => 0)) from rfl) (fun S' h => ?_)
  subst h
  refine mj_newa_ok (t := 0) (N := 8) F (by decide) (mj_ade dX3_init 12 rfl) mw_ar0 (by decide) (by decide) (by decide) (Nat.le_of_ble_eq_true rfl) (fun _ => rfl) (fun _ => rfl) (Nat.le_of_ble_eq_true rfl) (Nat.le_of_ble_eq_true rfl) ?_
  show mj_Wg _ _ _ _ _ _ _ _ _ _ _ _ _ 3 24 _ 25 (([some (.ref 66)], [.ref 69, .ref 66], MM 70 69 (fun _ _ => 0)) : mj_S)
  refine mj_run_ok (pe := 31) (S := _) (K := fun S' => S' = (([some (.ref 66)], [.int 8, .ref 66], MM 70 70 (fun _ _ => 0)) : mj_S)) F [.putfield 18, .aload_n 0, .bipush 8] ⟨mj_ade dX3_init 13 rfl, ⟨mj_ade dX3_init 14 rfl, ⟨mj_ade dX3_init 15 rfl, rfl⟩⟩⟩ (show (([some (.ref 66)], [.int 8, .ref 66], MM 70 70 (fun _ _ => 0)) : mj_S) = ([some (.ref 66)], [.int 8, .ref 66], MM 70 70 (fun _ _ => 0)) from rfl) (fun S' h => ?_)
  subst h
  refine mj_newa_ok (t := 0) (N := 8) F (by decide) (mj_ade dX3_init 16 rfl) mw_ar0 (by decide) (by decide) (by decide) (Nat.le_of_ble_eq_true rfl) (fun _ => rfl) (fun _ => rfl) (Nat.le_of_ble_eq_true rfl) (Nat.le_of_ble_eq_true rfl) ?_
  show mj_Wg _ _ _ _ _ _ _ _ _ _ _ _ _ 4 32 _ 33 (([some (.ref 66)], [.ref 70, .ref 66], MM 71 70 (fun _ _ => 0)) : mj_S)
  refine mj_run_ok (pe := 39) (S := _) (K := fun S' => S' = (([some (.ref 66)], [.int 8, .ref 66], MM 71 71 (fun _ _ => 0)) : mj_S)) F [.putfield 21, .aload_n 0, .bipush 8] ⟨mj_ade dX3_init 17 rfl, ⟨mj_ade dX3_init 18 rfl, ⟨mj_ade dX3_init 19 rfl, rfl⟩⟩⟩ (show (([some (.ref 66)], [.int 8, .ref 66], MM 71 71 (fun _ _ => 0)) : mj_S) = ([some (.ref 66)], [.int 8, .ref 66], MM 71 71 (fun _ _ => 0)) from rfl) (fun S' h => ?_)
  subst h
  refine mj_newa_ok (t := 0) (N := 8) F (by decide) (mj_ade dX3_init 20 rfl) mw_ar0 (by decide) (by decide) (by decide) (Nat.le_of_ble_eq_true rfl) (fun _ => rfl) (fun _ => rfl) (Nat.le_of_ble_eq_true rfl) (Nat.le_of_ble_eq_true rfl) ?_
  show mj_Wg _ _ _ _ _ _ _ _ _ _ _ _ _ 5 40 _ 41 (([some (.ref 66)], [.ref 71, .ref 66], MM 72 71 (fun _ _ => 0)) : mj_S)
  refine mj_run_ok (pe := 47) (S := _) (K := fun S' => S' = (([some (.ref 66)], [.int 8, .ref 66], MM 72 72 (fun _ _ => 0)) : mj_S)) F [.putfield 24, .aload_n 0, .bipush 8] ⟨mj_ade dX3_init 21 rfl, ⟨mj_ade dX3_init 22 rfl, ⟨mj_ade dX3_init 23 rfl, rfl⟩⟩⟩ (show (([some (.ref 66)], [.int 8, .ref 66], MM 72 72 (fun _ _ => 0)) : mj_S) = ([some (.ref 66)], [.int 8, .ref 66], MM 72 72 (fun _ _ => 0)) from rfl) (fun S' h => ?_)
  subst h
  refine mj_newa_ok (t := 0) (N := 8) F (by decide) (mj_ade dX3_init 24 rfl) mw_ar0 (by decide) (by decide) (by decide) (Nat.le_of_ble_eq_true rfl) (fun _ => rfl) (fun _ => rfl) (Nat.le_of_ble_eq_true rfl) (Nat.le_of_ble_eq_true rfl) ?_
  show mj_Wg _ _ _ _ _ _ _ _ _ _ _ _ _ 6 48 _ 49 (([some (.ref 66)], [.ref 72, .ref 66], MM 73 72 (fun _ _ => 0)) : mj_S)
  refine mj_run_ok (pe := 55) (S := _) (K := fun S' => S' = (([some (.ref 66)], [.int 8, .ref 66], MM 73 73 (fun _ _ => 0)) : mj_S)) F [.putfield 27, .aload_n 0, .bipush 8] ⟨mj_ade dX3_init 25 rfl, ⟨mj_ade dX3_init 26 rfl, ⟨mj_ade dX3_init 27 rfl, rfl⟩⟩⟩ (show (([some (.ref 66)], [.int 8, .ref 66], MM 73 73 (fun _ _ => 0)) : mj_S) = ([some (.ref 66)], [.int 8, .ref 66], MM 73 73 (fun _ _ => 0)) from rfl) (fun S' h => ?_)
  subst h
  refine mj_newa_ok (t := 0) (N := 8) F (by decide) (mj_ade dX3_init 28 rfl) mw_ar0 (by decide) (by decide) (by decide) (Nat.le_of_ble_eq_true rfl) (fun _ => rfl) (fun _ => rfl) (Nat.le_of_ble_eq_true rfl) (Nat.le_of_ble_eq_true rfl) ?_
  show mj_Wg _ _ _ _ _ _ _ _ _ _ _ _ _ 7 56 _ 57 (([some (.ref 66)], [.ref 73, .ref 66], MM 74 73 (fun _ _ => 0)) : mj_S)
  refine mj_run_ok (pe := 63) (S := _) (K := fun S' => S' = (([some (.ref 66)], [.int 8, .ref 66], MM 74 74 (fun _ _ => 0)) : mj_S)) F [.putfield 30, .aload_n 0, .bipush 8] ⟨mj_ade dX3_init 29 rfl, ⟨mj_ade dX3_init 30 rfl, ⟨mj_ade dX3_init 31 rfl, rfl⟩⟩⟩ (show (([some (.ref 66)], [.int 8, .ref 66], MM 74 74 (fun _ _ => 0)) : mj_S) = ([some (.ref 66)], [.int 8, .ref 66], MM 74 74 (fun _ _ => 0)) from rfl) (fun S' h => ?_)
  subst h
  refine mj_newa_ok (t := 0) (N := 8) F (by decide) (mj_ade dX3_init 32 rfl) mw_ar0 (by decide) (by decide) (by decide) (Nat.le_of_ble_eq_true rfl) (fun _ => rfl) (fun _ => rfl) (Nat.le_of_ble_eq_true rfl) (Nat.le_of_ble_eq_true rfl) ?_
  show mj_Wg _ _ _ _ _ _ _ _ _ _ _ _ _ 8 64 _ 65 (([some (.ref 66)], [.ref 74, .ref 66], MM 75 74 (fun _ _ => 0)) : mj_S)
  refine mj_run_ok (pe := 68) (S := _) (K := fun S' => S' = (([some (.ref 66)], [], MM 75 75 (fun _ _ => 0)) : mj_S)) F [.putfield 33] ⟨mj_ade dX3_init 33 rfl, rfl⟩ (show (([some (.ref 66)], [], MM 75 75 (fun _ _ => 0)) : mj_S) = ([some (.ref 66)], [], MM 75 75 (fun _ _ => 0)) from rfl) (fun S' h => ?_)
  subst h
  exact mj_ret_ok F (mj_ade dX3_init 34 rfl) ⟨rfl, rfl⟩
set_option maxRecDepth 100000 in
set_option maxHeartbeats 4000000 in
theorem ctX4_init_75 (Ω : mj_Om) (l : Launch) : mj_Met Ω l true mX4_init 1 3 23 [.ref 75, .ref 3] (MM 76 76 (fun _ _ => 0)) (fun r M' => r = none ∧ M' = MM 79 80 (fun _ _ => 0)) := by
  refine mj_entry (by decide) rfl (fun _ => rfl) (by decide) ?_
  intro p e s m args below meth c F
  show mj_Wg _ _ _ _ _ _ _ _ _ _ _ _ _ 0 0 _ 0 (([some (.ref 75), some (.ref 3)], [], MM 76 76 (fun _ _ => 0)) : mj_S)
  refine mj_run_ok (pe := 1) (S := _) (K := fun S' => S' = (([some (.ref 75), some (.ref 3)], [.ref 75], MM 76 76 (fun _ _ => 0)) : mj_S)) F [.aload_n 0] ⟨mj_ade dX4_init 0 rfl, rfl⟩ (show (([some (.ref 75), some (.ref 3)], [.ref 75], MM 76 76 (fun _ _ => 0)) : mj_S) = ([some (.ref 75), some (.ref 3)], [.ref 75], MM 76 76 (fun _ _ => 0)) from rfl) (fun S' h => ?_)
  subst h
  refine mj_obj_ok F (mj_ade dX4_init 1 rfl) mw_ol4 mw_oi mw_oc (Nat.le_of_ble_eq_true rfl) (Nat.le_of_ble_eq_true rfl) ?_
  show mj_Wg _ _ _ _ _ _ _ _ _ _ _ _ _ 0 0 _ 4 (([some (.ref 75), some (.ref 3)], [], MM 76 76 (fun _ _ => 0)) : mj_S)
  refine mj_run_ok (pe := 7) (S := _) (K := fun S' => S' = (([some (.ref 75), some (.ref 3)], [.int 7, .ref 75], MM 76 76 (fun _ _ => 0)) : mj_S)) F [.aload_n 0, .bipush 7] ⟨mj_ade dX4_init 2 rfl, ⟨mj_ade dX4_init 3 rfl, rfl⟩⟩ (show (([some (.ref 75), some (.ref 3)], [.int 7, .ref 75], MM 76 76 (fun _ _ => 0)) : mj_S) = ([some (.ref 75), some (.ref 3)], [.int 7, .ref 75], MM 76 76 (fun _ _ => 0)) from rfl) (fun S' h => ?_)
  subst h
  refine mj_newa_ok (t := 0) (N := 7) F (by decide) (mj_ade dX4_init 4 rfl) mw_ar0 (by decide) (by decide) (by decide) (Nat.le_of_ble_eq_true rfl) (fun _ => rfl) (fun _ => rfl) (Nat.le_of_ble_eq_true rfl) (Nat.le_of_ble_eq_true rfl) ?_
  show mj_Wg _ _ _ _ _ _ _ _ _ _ _ _ _ 1 7 _ 9 (([some (.ref 75), some (.ref 3)], [.ref 76, .ref 75], MM 77 76 (fun _ _ => 0)) : mj_S)
  refine mj_run_ok (pe := 15) (S := _) (K := fun S' => S' = (([some (.ref 75), some (.ref 3)], [.int 8, .ref 75], MM 77 77 (fun _ _ => 0)) : mj_S)) F [.putfield 11, .aload_n 0, .bipush 8] ⟨mj_ade dX4_init 5 rfl, ⟨mj_ade dX4_init 6 rfl, ⟨mj_ade dX4_init 7 rfl, rfl⟩⟩⟩ (show (([some (.ref 75), some (.ref 3)], [.int 8, .ref 75], MM 77 77 (fun _ _ => 0)) : mj_S) = ([some (.ref 75), some (.ref 3)], [.int 8, .ref 75], MM 77 77 (fun _ _ => 0)) from rfl) (fun S' h => ?_)
  subst h
  refine mj_newa_ok (t := 0) (N := 8) F (by decide) (mj_ade dX4_init 8 rfl) mw_ar0 (by decide) (by decide) (by decide) (Nat.le_of_ble_eq_true rfl) (fun _ => rfl) (fun _ => rfl) (Nat.le_of_ble_eq_true rfl) (Nat.le_of_ble_eq_true rfl) ?_
  show mj_Wg _ _ _ _ _ _ _ _ _ _ _ _ _ 2 15 _ 17 (([some (.ref 75), some (.ref 3)], [.ref 77, .ref 75], MM 78 77 (fun _ _ => 0)) : mj_S)
  refine mj_run_ok (pe := 23) (S := _) (K := fun S' => S' = (([some (.ref 75), some (.ref 3)], [.int 8, .ref 75], MM 78 78 (fun _ _ => 0)) : mj_S)) F [.putfield 17, .aload_n 0, .bipush 8] ⟨mj_ade dX4_init 9 rfl, ⟨mj_ade dX4_init 10 rfl, ⟨mj_ade dX4_init 11 rfl, rfl⟩⟩⟩ (show (([some (.ref 75), some (.ref 3)], [.int 8, .ref 75], MM 78 78 (fun _ _ => 0)) : mj_S) = ([some (.ref 75), some (.ref 3)], [.int 8, .ref 75], MM 78 78 (fun _ _ => 0)) from rfl) (fun S' h => ?_)
  subst h
  refine mj_newa_ok (t := 0) (N := 8) F (by decide) (mj_ade dX4_init 12 rfl) mw_ar0 (by decide) (by decide) (by decide) (Nat.le_of_ble_eq_true rfl) (fun _ => rfl) (fun _ => rfl) (Nat.le_of_ble_eq_true rfl) (Nat.le_of_ble_eq_true rfl) ?_
  show mj_Wg _ _ _ _ _ _ _ _ _ _ _ _ _ 3 23 _ 25 (([some (.ref 75), some (.ref 3)], [.ref 78, .ref 75], MM 79 78 (fun _ _ => 0)) : mj_S)
  refine mj_run_ok (pe := 33) (S := _) (K := fun S' => S' = (([some (.ref 75), some (.ref 3)], [], MM 79 80 (fun _ _ => 0)) : mj_S)) F [.putfield 20, .aload_n 0, .aload_n 1, .putfield 23] ⟨mj_ade dX4_init 13 rfl, ⟨mj_ade dX4_init 14 rfl, ⟨mj_ade dX4_init 15 rfl, ⟨mj_ade dX4_init 16 rfl, rfl⟩⟩⟩⟩ (show (([some (.ref 75), some (.ref 3)], [], MM 79 80 (fun _ _ => 0)) : mj_S) = ([some (.ref 75), some (.ref 3)], [], MM 79 80 (fun _ _ => 0)) from rfl) (fun S' h => ?_)
  subst h
  exact mj_ret_ok F (mj_ade dX4_init 17 rfl) ⟨rfl, rfl⟩
set_option maxRecDepth 100000 in
set_option maxHeartbeats 4000000 in
theorem ctX2_init_79 (Ω : mj_Om) (l : Launch) : mj_Met Ω l true mX2_init 1 0 0 [.ref 79] (MM 80 81 (fun _ _ => 0)) (fun r M' => r = none ∧ M' = MM 80 81 (fun _ _ => 0)) := by
  refine mj_entry (by decide) rfl (fun _ => rfl) (by decide) ?_
  intro p e s m args below meth c F
  show mj_Wg _ _ _ _ _ _ _ _ _ _ _ _ _ 0 0 _ 0 (([some (.ref 79)], [], MM 80 81 (fun _ _ => 0)) : mj_S)
  refine mj_run_ok (pe := 1) (S := _) (K := fun S' => S' = (([some (.ref 79)], [.ref 79], MM 80 81 (fun _ _ => 0)) : mj_S)) F [.aload_n 0] ⟨mj_ade dX2_init 0 rfl, rfl⟩ (show (([some (.ref 79)], [.ref 79], MM 80 81 (fun _ _ => 0)) : mj_S) = ([some (.ref 79)], [.ref 79], MM 80 81 (fun _ _ => 0)) from rfl) (fun S' h => ?_)
  subst h
  refine mj_obj_ok F (mj_ade dX2_init 1 rfl) mw_ol2 mw_oi mw_oc (Nat.le_of_ble_eq_true rfl) (Nat.le_of_ble_eq_true rfl) ?_
  show mj_Wg _ _ _ _ _ _ _ _ _ _ _ _ _ 0 0 _ 4 (([some (.ref 79)], [], MM 80 81 (fun _ _ => 0)) : mj_S)
  exact mj_ret_ok F (mj_ade dX2_init 2 rfl) ⟨rfl, rfl⟩
set_option maxRecDepth 100000 in
set_option maxHeartbeats 4000000 in
theorem ctX0_init_80 (Ω : mj_Om) (l : Launch) : mj_Met Ω l true mX0_init 1 1 1960 [.ref 80] (MM 81 82 (fun _ _ => 0)) (fun r M' => r = none ∧ M' = MM 82 83 (fun _ _ => 0)) := by
  refine mj_entry (by decide) rfl (fun _ => rfl) (by decide) ?_
  intro p e s m args below meth c F
  show mj_Wg _ _ _ _ _ _ _ _ _ _ _ _ _ 0 0 _ 0 (([some (.ref 80)], [], MM 81 82 (fun _ _ => 0)) : mj_S)
  refine mj_run_ok (pe := 1) (S := _) (K := fun S' => S' = (([some (.ref 80)], [.ref 80], MM 81 82 (fun _ _ => 0)) : mj_S)) F [.aload_n 0] ⟨mj_ade dX0_init 0 rfl, rfl⟩ (show (([some (.ref 80)], [.ref 80], MM 81 82 (fun _ _ => 0)) : mj_S) = ([some (.ref 80)], [.ref 80], MM 81 82 (fun _ _ => 0)) from rfl) (fun S' h => ?_)
  subst h
  refine mj_obj_ok F (mj_ade dX0_init 1 rfl) mw_ol0 mw_oi mw_oc (Nat.le_of_ble_eq_true rfl) (Nat.le_of_ble_eq_true rfl) ?_
  show mj_Wg _ _ _ _ _ _ _ _ _ _ _ _ _ 0 0 _ 4 (([some (.ref 80)], [], MM 81 82 (fun _ _ => 0)) : mj_S)
  refine mj_run_ok (pe := 8) (S := _) (K := fun S' => S' = (([some (.ref 80)], [.int 1960, .ref 80], MM 81 82 (fun _ _ => 0)) : mj_S)) F [.aload_n 0, .sipush 1960] ⟨mj_ade dX0_init 2 rfl, ⟨mj_ade dX0_init 3 rfl, rfl⟩⟩ (show (([some (.ref 80)], [.int 1960, .ref 80], MM 81 82 (fun _ _ => 0)) : mj_S) = ([some (.ref 80)], [.int 1960, .ref 80], MM 81 82 (fun _ _ => 0)) from rfl) (fun S' h => ?_)
  subst h
  refine mj_newa_ok (t := 0) (N := 1960) F (by decide) (mj_ade dX0_init 4 rfl) mw_ar0 (by decide) (by decide) (by decide) (Nat.le_of_ble_eq_true rfl) (fun _ => rfl) (fun _ => rfl) (Nat.le_of_ble_eq_true rfl) (Nat.le_of_ble_eq_true rfl) ?_
  show mj_Wg _ _ _ _ _ _ _ _ _ _ _ _ _ 1 1960 _ 10 (([some (.ref 80)], [.ref 81, .ref 80], MM 82 82 (fun _ _ => 0)) : mj_S)
  refine mj_run_ok (pe := 13) (S := _) (K := fun S' => S' = (([some (.ref 80)], [], MM 82 83 (fun _ _ => 0)) : mj_S)) F [.putfield 11] ⟨mj_ade dX0_init 5 rfl, rfl⟩ (show (([some (.ref 80)], [], MM 82 83 (fun _ _ => 0)) : mj_S) = ([some (.ref 80)], [], MM 82 83 (fun _ _ => 0)) from rfl) (fun S' h => ?_)
  subst h
  exact mj_ret_ok F (mj_ade dX0_init 6 rfl) ⟨rfl, rfl⟩
set_option maxRecDepth 100000 in
set_option maxHeartbeats 4000000 in
theorem ctX9_init_82 (Ω : mj_Om) (l : Launch) : mj_Met Ω l true mX9_init 1 3 11 [.ref 82] (MM 83 84 (fun _ _ => 0)) (fun r M' => r = none ∧ M' = MM 86 87 (fun _ _ => 0)) := by
  refine mj_entry (by decide) rfl (fun _ => rfl) (by decide) ?_
  intro p e s m args below meth c F
  show mj_Wg _ _ _ _ _ _ _ _ _ _ _ _ _ 0 0 _ 0 (([some (.ref 82)], [], MM 83 84 (fun _ _ => 0)) : mj_S)
  refine mj_run_ok (pe := 1) (S := _) (K := fun S' => S' = (([some (.ref 82)], [.ref 82], MM 83 84 (fun _ _ => 0)) : mj_S)) F [.aload_n 0] ⟨mj_ade dX9_init 0 rfl, rfl⟩ (show (([some (.ref 82)], [.ref 82], MM 83 84 (fun _ _ => 0)) : mj_S) = ([some (.ref 82)], [.ref 82], MM 83 84 (fun _ _ => 0)) from rfl) (fun S' h => ?_)
  subst h
  refine mj_obj_ok F (mj_ade dX9_init 1 rfl) mw_ol9 mw_oi mw_oc (Nat.le_of_ble_eq_true rfl) (Nat.le_of_ble_eq_true rfl) ?_
  show mj_Wg _ _ _ _ _ _ _ _ _ _ _ _ _ 0 0 _ 4 (([some (.ref 82)], [], MM 83 84 (fun _ _ => 0)) : mj_S)
  refine mj_run_ok (pe := 6) (S := _) (K := fun S' => S' = (([some (.ref 82)], [.int 5, .ref 82], MM 83 84 (fun _ _ => 0)) : mj_S)) F [.aload_n 0, .iconst 5] ⟨mj_ade dX9_init 2 rfl, ⟨mj_ade dX9_init 3 rfl, rfl⟩⟩ (show (([some (.ref 82)], [.int 5, .ref 82], MM 83 84 (fun _ _ => 0)) : mj_S) = ([some (.ref 82)], [.int 5, .ref 82], MM 83 84 (fun _ _ => 0)) from rfl) (fun S' h => ?_)
  subst h
  refine mj_newa_ok (t := 0) (N := 5) F (by decide) (mj_ade dX9_init 4 rfl) mw_ar0 (by decide) (by decide) (by decide) (Nat.le_of_ble_eq_true rfl) (fun _ => rfl) (fun _ => rfl) (Nat.le_of_ble_eq_true rfl) (Nat.le_of_ble_eq_true rfl) ?_
  show mj_Wg _ _ _ _ _ _ _ _ _ _ _ _ _ 1 5 _ 8 (([some (.ref 82)], [.ref 83, .ref 82], MM 84 84 (fun _ _ => 0)) : mj_S)
  refine mj_run_ok (pe := 13) (S := _) (K := fun S' => S' = (([some (.ref 82)], [.int 3, .ref 82], MM 84 85 (fun _ _ => 0)) : mj_S)) F [.putfield 11, .aload_n 0, .iconst 3] ⟨mj_ade dX9_init 5 rfl, ⟨mj_ade dX9_init 6 rfl, ⟨mj_ade dX9_init 7 rfl, rfl⟩⟩⟩ (show (([some (.ref 82)], [.int 3, .ref 82], MM 84 85 (fun _ _ => 0)) : mj_S) = ([some (.ref 82)], [.int 3, .ref 82], MM 84 85 (fun _ _ => 0)) from rfl) (fun S' h => ?_)
  subst h
  refine mj_newa_ok (t := 0) (N := 3) F (by decide) (mj_ade dX9_init 8 rfl) mw_ar0 (by decide) (by decide) (by decide) (Nat.le_of_ble_eq_true rfl) (fun _ => rfl) (fun _ => rfl) (Nat.le_of_ble_eq_true rfl) (Nat.le_of_ble_eq_true rfl) ?_
  show mj_Wg _ _ _ _ _ _ _ _ _ _ _ _ _ 2 8 _ 15 (([some (.ref 82)], [.ref 84, .ref 82], MM 85 85 (fun _ _ => 0)) : mj_S)
  refine mj_run_ok (pe := 20) (S := _) (K := fun S' => S' = (([some (.ref 82)], [.int 3, .ref 82], MM 85 86 (fun _ _ => 0)) : mj_S)) F [.putfield 15, .aload_n 0, .iconst 3] ⟨mj_ade dX9_init 9 rfl, ⟨mj_ade dX9_init 10 rfl, ⟨mj_ade dX9_init 11 rfl, rfl⟩⟩⟩ (show (([some (.ref 82)], [.int 3, .ref 82], MM 85 86 (fun _ _ => 0)) : mj_S) = ([some (.ref 82)], [.int 3, .ref 82], MM 85 86 (fun _ _ => 0)) from rfl) (fun S' h => ?_)
  subst h
  refine mj_newa_ok (t := 0) (N := 3) F (by decide) (mj_ade dX9_init 12 rfl) mw_ar0 (by decide) (by decide) (by decide) (Nat.le_of_ble_eq_true rfl) (fun _ => rfl) (fun _ => rfl) (Nat.le_of_ble_eq_true rfl) (Nat.le_of_ble_eq_true rfl) ?_
  show mj_Wg _ _ _ _ _ _ _ _ _ _ _ _ _ 3 11 _ 22 (([some (.ref 82)], [.ref 85, .ref 82], MM 86 86 (fun _ _ => 0)) : mj_S)
  refine mj_run_ok (pe := 25) (S := _) (K := fun S' => S' = (([some (.ref 82)], [], MM 86 87 (fun _ _ => 0)) : mj_S)) F [.putfield 18] ⟨mj_ade dX9_init 13 rfl, rfl⟩ (show (([some (.ref 82)], [], MM 86 87 (fun _ _ => 0)) : mj_S) = ([some (.ref 82)], [], MM 86 87 (fun _ _ => 0)) from rfl) (fun S' h => ?_)
  subst h
  exact mj_ret_ok F (mj_ade dX9_init 14 rfl) ⟨rfl, rfl⟩
set_option maxRecDepth 100000 in
set_option maxHeartbeats 4000000 in
theorem ctX5_init_86 (Ω : mj_Om) (l : Launch) : mj_Met Ω l true mX5_init 1 4 32 [.ref 86] (MM 87 88 (fun _ _ => 0)) (fun r M' => r = none ∧ M' = MM 91 92 (fun _ _ => 0)) := by
  refine mj_entry (by decide) rfl (fun _ => rfl) (by decide) ?_
  intro p e s m args below meth c F
  show mj_Wg _ _ _ _ _ _ _ _ _ _ _ _ _ 0 0 _ 0 (([some (.ref 86)], [], MM 87 88 (fun _ _ => 0)) : mj_S)
  refine mj_run_ok (pe := 1) (S := _) (K := fun S' => S' = (([some (.ref 86)], [.ref 86], MM 87 88 (fun _ _ => 0)) : mj_S)) F [.aload_n 0] ⟨mj_ade dX5_init 0 rfl, rfl⟩ (show (([some (.ref 86)], [.ref 86], MM 87 88 (fun _ _ => 0)) : mj_S) = ([some (.ref 86)], [.ref 86], MM 87 88 (fun _ _ => 0)) from rfl) (fun S' h => ?_)
  subst h
  refine mj_obj_ok F (mj_ade dX5_init 1 rfl) mw_ol5 mw_oi mw_oc (Nat.le_of_ble_eq_true rfl) (Nat.le_of_ble_eq_true rfl) ?_
  show mj_Wg _ _ _ _ _ _ _ _ _ _ _ _ _ 0 0 _ 4 (([some (.ref 86)], [], MM 87 88 (fun _ _ => 0)) : mj_S)
  refine mj_run_ok (pe := 7) (S := _) (K := fun S' => S' = (([some (.ref 86)], [.int 8, .ref 86], MM 87 88 (fun _ _ => 0)) : mj_S)) F [.aload_n 0, .bipush 8] ⟨mj_ade dX5_init 2 rfl, ⟨mj_ade dX5_init 3 rfl, rfl⟩⟩ (show (([some (.ref 86)], [.int 8, .ref 86], MM 87 88 (fun _ _ => 0)) : mj_S) = ([some (.ref 86)], [.int 8, .ref 86], MM 87 88 (fun _ _ => 0)) from rfl) (fun S' h => ?_)
  subst h
  refine mj_newa_ok (t := 0) (N := 8) F (by decide) (mj_ade dX5_init 4 rfl) mw_ar0 (by decide) (by decide) (by decide) (Nat.le_of_ble_eq_true rfl) (fun _ => rfl) (fun _ => rfl) (Nat.le_of_ble_eq_true rfl) (Nat.le_of_ble_eq_true rfl) ?_
  show mj_Wg _ _ _ _ _ _ _ _ _ _ _ _ _ 1 8 _ 9 (([some (.ref 86)], [.ref 87, .ref 86], MM 88 88 (fun _ _ => 0)) : mj_S)
  refine mj_run_ok (pe := 15) (S := _) (K := fun S' => S' = (([some (.ref 86)], [.int 8, .ref 86], MM 88 89 (fun _ _ => 0)) : mj_S)) F [.putfield 9, .aload_n 0, .bipush 8] ⟨mj_ade dX5_init 5 rfl, ⟨mj_ade dX5_init 6 rfl, ⟨mj_ade dX5_init 7 rfl, rfl⟩⟩⟩ (show (([some (.ref 86)], [.int 8, .ref 86], MM 88 89 (fun _ _ => 0)) : mj_S) = ([some (.ref 86)], [.int 8, .ref 86], MM 88 89 (fun _ _ => 0)) from rfl) (fun S' h => ?_)
  subst h
  refine mj_newa_ok (t := 0) (N := 8) F (by decide) (mj_ade dX5_init 8 rfl) mw_ar0 (by decide) (by decide) (by decide) (Nat.le_of_ble_eq_true rfl) (fun _ => rfl) (fun _ => rfl) (Nat.le_of_ble_eq_true rfl) (Nat.le_of_ble_eq_true rfl) ?_
  show mj_Wg _ _ _ _ _ _ _ _ _ _ _ _ _ 2 16 _ 17 (([some (.ref 86)], [.ref 88, .ref 86], MM 89 89 (fun _ _ => 0)) : mj_S)
  refine mj_run_ok (pe := 23) (S := _) (K := fun S' => S' = (([some (.ref 86)], [.int 8, .ref 86], MM 89 90 (fun _ _ => 0)) : mj_S)) F [.putfield 15, .aload_n 0, .bipush 8] ⟨mj_ade dX5_init 9 rfl, ⟨mj_ade dX5_init 10 rfl, ⟨mj_ade dX5_init 11 rfl, rfl⟩⟩⟩ (show (([some (.ref 86)], [.int 8, .ref 86], MM 89 90 (fun _ _ => 0)) : mj_S) = ([some (.ref 86)], [.int 8, .ref 86], MM 89 90 (fun _ _ => 0)) from rfl) (fun S' h => ?_)
  subst h
  refine mj_newa_ok (t := 0) (N := 8) F (by decide) (mj_ade dX5_init 12 rfl) mw_ar0 (by decide) (by decide) (by decide) (Nat.le_of_ble_eq_true rfl) (fun _ => rfl) (fun _ => rfl) (Nat.le_of_ble_eq_true rfl) (Nat.le_of_ble_eq_true rfl) ?_
  show mj_Wg _ _ _ _ _ _ _ _ _ _ _ _ _ 3 24 _ 25 (([some (.ref 86)], [.ref 89, .ref 86], MM 90 90 (fun _ _ => 0)) : mj_S)
  refine mj_run_ok (pe := 31) (S := _) (K := fun S' => S' = (([some (.ref 86)], [.int 8, .ref 86], MM 90 91 (fun _ _ => 0)) : mj_S)) F [.putfield 18, .aload_n 0, .bipush 8] ⟨mj_ade dX5_init 13 rfl, ⟨mj_ade dX5_init 14 rfl, ⟨mj_ade dX5_init 15 rfl, rfl⟩⟩⟩ (show (([some (.ref 86)], [.int 8, .ref 86], MM 90 91 (fun _ _ => 0)) : mj_S) = ([some (.ref 86)], [.int 8, .ref 86], MM 90 91 (fun _ _ => 0)) from rfl) (fun S' h => ?_)
  subst h
  refine mj_newa_ok (t := 0) (N := 8) F (by decide) (mj_ade dX5_init 16 rfl) mw_ar0 (by decide) (by decide) (by decide) (Nat.le_of_ble_eq_true rfl) (fun _ => rfl) (fun _ => rfl) (Nat.le_of_ble_eq_true rfl) (Nat.le_of_ble_eq_true rfl) ?_
  show mj_Wg _ _ _ _ _ _ _ _ _ _ _ _ _ 4 32 _ 33 (([some (.ref 86)], [.ref 90, .ref 86], MM 91 91 (fun _ _ => 0)) : mj_S)
  refine mj_run_ok (pe := 36) (S := _) (K := fun S' => S' = (([some (.ref 86)], [], MM 91 92 (fun _ _ => 0)) : mj_S)) F [.putfield 21] ⟨mj_ade dX5_init 17 rfl, rfl⟩ (show (([some (.ref 86)], [], MM 91 92 (fun _ _ => 0)) : mj_S) = ([some (.ref 86)], [], MM 91 92 (fun _ _ => 0)) from rfl) (fun S' h => ?_)
  subst h
  exact mj_ret_ok F (mj_ade dX5_init 18 rfl) ⟨rfl, rfl⟩
set_option maxRecDepth 100000 in
set_option maxHeartbeats 4000000 in
theorem ctX11_init_0 (Ω : mj_Om) (l : Launch) : mj_Met Ω l true mX11_init 3 90 4047 [.ref 0] (MM 1 0 (fun _ _ => 0)) (fun r M' => r = none ∧ M' = MM 91 93 (fun _ _ => 0)) := by
  refine mj_entry (by decide) rfl (fun _ => rfl) (by decide) ?_
  intro p e s m args below meth c F
  show mj_Wg _ _ _ _ _ _ _ _ _ _ _ _ _ 0 0 _ 0 (([some (.ref 0)], [], MM 1 0 (fun _ _ => 0)) : mj_S)
  refine mj_run_ok (pe := 1) (S := _) (K := fun S' => S' = (([some (.ref 0)], [.ref 0], MM 1 0 (fun _ _ => 0)) : mj_S)) F [.aload_n 0] ⟨mj_ade dX11_init 0 rfl, rfl⟩ (show (([some (.ref 0)], [.ref 0], MM 1 0 (fun _ _ => 0)) : mj_S) = ([some (.ref 0)], [.ref 0], MM 1 0 (fun _ _ => 0)) from rfl) (fun S' h => ?_)
  subst h
  refine mj_obj_ok F (mj_ade dX11_init 1 rfl) mw_ol11 mw_oi mw_oc (Nat.le_of_ble_eq_true rfl) (Nat.le_of_ble_eq_true rfl) ?_
  show mj_Wg _ _ _ _ _ _ _ _ _ _ _ _ _ 0 0 _ 4 (([some (.ref 0)], [], MM 1 0 (fun _ _ => 0)) : mj_S)
  refine mj_run_ok (pe := 5) (S := _) (K := fun S' => S' = (([some (.ref 0)], [.ref 0], MM 1 0 (fun _ _ => 0)) : mj_S)) F [.aload_n 0] ⟨mj_ade dX11_init 2 rfl, rfl⟩ (show (([some (.ref 0)], [.ref 0], MM 1 0 (fun _ _ => 0)) : mj_S) = ([some (.ref 0)], [.ref 0], MM 1 0 (fun _ _ => 0)) from rfl) (fun S' h => ?_)
  subst h
  refine mj_new_ok (ci := 8) (q := (RX8, TX8, 3)) F (mj_ade dX11_init 3 rfl) rfl mw_cl11_7 mw_in8 mw_iz8 (Nat.le_of_ble_eq_true rfl) (fun _ => rfl) (fun _ => rfl) (fun _ => rfl) (Nat.le_of_ble_eq_true rfl) (Nat.le_of_ble_eq_true rfl) ?_
  show mj_Wg _ _ _ _ _ _ _ _ _ _ _ _ _ 1 3 _ 8 (([some (.ref 0)], [.ref 1, .ref 0], MM 2 0 (fun _ _ => 0)) : mj_S)
  refine mj_run_ok (pe := 9) (S := _) (K := fun S' => S' = (([some (.ref 0)], [.ref 1, .ref 1, .ref 0], MM 2 0 (fun _ _ => 0)) : mj_S)) F [.dup] ⟨mj_ade dX11_init 4 rfl, rfl⟩ (show (([some (.ref 0)], [.ref 1, .ref 1, .ref 0], MM 2 0 (fun _ _ => 0)) : mj_S) = ([some (.ref 0)], [.ref 1, .ref 1, .ref 0], MM 2 0 (fun _ _ => 0)) from rfl) (fun S' h => ?_)
  subst h
  refine mj_ctor_ok (d' := 1) (n := 0) (as := []) (a := 1) (host := "GunLine") F (mj_ade dX11_init 5 rfl) (ctX8_init_1 Ω l) fX8_init rfl rfl iX8_init (by decide +kernel) rfl (Or.inr mw_l11_9) ⟨Nat.le_of_ble_eq_true rfl, Nat.le_of_ble_eq_true rfl⟩ ⟨Nat.le_of_ble_eq_true rfl, Nat.le_of_ble_eq_true rfl⟩ (Nat.le_of_ble_eq_true rfl) (fun r M' h => ?_)
  obtain ⟨rfl, rfl⟩ := h
  show mj_Wg _ _ _ _ _ _ _ _ _ _ _ _ _ 2 243 _ 12 (([some (.ref 0)], [.ref 1, .ref 0], MM 3 1 (fun _ _ => 0)) : mj_S)
  refine mj_run_ok (pe := 16) (S := _) (K := fun S' => S' = (([some (.ref 0)], [.ref 0], MM 3 2 (fun _ _ => 0)) : mj_S)) F [.putfield 10, .aload_n 0] ⟨mj_ade dX11_init 6 rfl, ⟨mj_ade dX11_init 7 rfl, rfl⟩⟩ (show (([some (.ref 0)], [.ref 0], MM 3 2 (fun _ _ => 0)) : mj_S) = ([some (.ref 0)], [.ref 0], MM 3 2 (fun _ _ => 0)) from rfl) (fun S' h => ?_)
  subst h
  refine mj_new_ok (ci := 6) (q := (RX6, TX6, 4)) F (mj_ade dX11_init 8 rfl) rfl mw_cl11_16 mw_in6 mw_iz6 (Nat.le_of_ble_eq_true rfl) (fun _ => rfl) (fun _ => rfl) (fun _ => rfl) (Nat.le_of_ble_eq_true rfl) (Nat.le_of_ble_eq_true rfl) ?_
  show mj_Wg _ _ _ _ _ _ _ _ _ _ _ _ _ 3 247 _ 19 (([some (.ref 0)], [.ref 3, .ref 0], MM 4 2 (fun _ _ => 0)) : mj_S)
  refine mj_run_ok (pe := 20) (S := _) (K := fun S' => S' = (([some (.ref 0)], [.ref 3, .ref 3, .ref 0], MM 4 2 (fun _ _ => 0)) : mj_S)) F [.dup] ⟨mj_ade dX11_init 9 rfl, rfl⟩ (show (([some (.ref 0)], [.ref 3, .ref 3, .ref 0], MM 4 2 (fun _ _ => 0)) : mj_S) = ([some (.ref 0)], [.ref 3, .ref 3, .ref 0], MM 4 2 (fun _ _ => 0)) from rfl) (fun S' h => ?_)
  subst h
  refine mj_ctor_ok (d' := 1) (n := 0) (as := []) (a := 3) (host := "GunLine") F (mj_ade dX11_init 10 rfl) (ctX6_init_3 Ω l) fX6_init rfl rfl iX6_init (by decide +kernel) rfl (Or.inr mw_l11_18) ⟨Nat.le_of_ble_eq_true rfl, Nat.le_of_ble_eq_true rfl⟩ ⟨Nat.le_of_ble_eq_true rfl, Nat.le_of_ble_eq_true rfl⟩ (Nat.le_of_ble_eq_true rfl) (fun r M' h => ?_)
  obtain ⟨rfl, rfl⟩ := h
  show mj_Wg _ _ _ _ _ _ _ _ _ _ _ _ _ 10 1279 _ 23 (([some (.ref 0)], [.ref 3, .ref 0], MM 11 9 (fun _ _ => 0)) : mj_S)
  refine mj_run_ok (pe := 27) (S := _) (K := fun S' => S' = (([some (.ref 0)], [.ref 0], MM 11 10 (fun _ _ => 0)) : mj_S)) F [.putfield 19, .aload_n 0] ⟨mj_ade dX11_init 11 rfl, ⟨mj_ade dX11_init 12 rfl, rfl⟩⟩ (show (([some (.ref 0)], [.ref 0], MM 11 10 (fun _ _ => 0)) : mj_S) = ([some (.ref 0)], [.ref 0], MM 11 10 (fun _ _ => 0)) from rfl) (fun S' h => ?_)
  subst h
  refine mj_new_ok (ci := 10) (q := (RX10, TX10, 5)) F (mj_ade dX11_init 13 rfl) rfl mw_cl11_23 mw_in10 mw_iz10 (Nat.le_of_ble_eq_true rfl) (fun _ => rfl) (fun _ => rfl) (fun _ => rfl) (Nat.le_of_ble_eq_true rfl) (Nat.le_of_ble_eq_true rfl) ?_
  show mj_Wg _ _ _ _ _ _ _ _ _ _ _ _ _ 11 1284 _ 30 (([some (.ref 0)], [.ref 11, .ref 0], MM 12 10 (fun _ _ => 0)) : mj_S)
  refine mj_run_ok (pe := 35) (S := _) (K := fun S' => S' = (([some (.ref 0)], [.ref 1, .ref 11, .ref 11, .ref 0], MM 12 10 (fun _ _ => 0)) : mj_S)) F [.dup, .aload_n 0, .getfield 10] ⟨mj_ade dX11_init 14 rfl, ⟨mj_ade dX11_init 15 rfl, ⟨mj_ade dX11_init 16 rfl, rfl⟩⟩⟩ (show (([some (.ref 0)], [.ref 1, .ref 11, .ref 11, .ref 0], MM 12 10 (fun _ _ => 0)) : mj_S) = ([some (.ref 0)], [.ref 1, .ref 11, .ref 11, .ref 0], MM 12 10 (fun _ _ => 0)) from rfl) (fun S' h => ?_)
  subst h
  refine mj_ctor_ok (d' := 2) (n := 1) (as := [.ref 1]) (a := 11) (host := "GunLine") F (mj_ade dX11_init 17 rfl) (ctX10_init_11 Ω l) fX10_init rfl rfl iX10_init (by decide +kernel) rfl (Or.inl mw_l11_25) ⟨Nat.le_of_ble_eq_true rfl, Nat.le_of_ble_eq_true rfl⟩ ⟨Nat.le_of_ble_eq_true rfl, Nat.le_of_ble_eq_true rfl⟩ (Nat.le_of_ble_eq_true rfl) (fun r M' h => ?_)
  obtain ⟨rfl, rfl⟩ := h
  show mj_Wg _ _ _ _ _ _ _ _ _ _ _ _ _ 23 1373 _ 38 (([some (.ref 0)], [.ref 11, .ref 0], MM 24 23 (fun _ _ => 0)) : mj_S)
  refine mj_run_ok (pe := 42) (S := _) (K := fun S' => S' = (([some (.ref 0)], [.ref 0], MM 24 24 (fun _ _ => 0)) : mj_S)) F [.putfield 28, .aload_n 0] ⟨mj_ade dX11_init 18 rfl, ⟨mj_ade dX11_init 19 rfl, rfl⟩⟩ (show (([some (.ref 0)], [.ref 0], MM 24 24 (fun _ _ => 0)) : mj_S) = ([some (.ref 0)], [.ref 0], MM 24 24 (fun _ _ => 0)) from rfl) (fun S' h => ?_)
  subst h
  refine mj_new_ok (ci := 7) (q := (RX7, TX7, 3)) F (mj_ade dX11_init 20 rfl) rfl mw_cl11_32 mw_in7 mw_iz7 (Nat.le_of_ble_eq_true rfl) (fun _ => rfl) (fun _ => rfl) (fun _ => rfl) (Nat.le_of_ble_eq_true rfl) (Nat.le_of_ble_eq_true rfl) ?_
  show mj_Wg _ _ _ _ _ _ _ _ _ _ _ _ _ 24 1376 _ 45 (([some (.ref 0)], [.ref 24, .ref 0], MM 25 24 (fun _ _ => 0)) : mj_S)
  refine mj_run_ok (pe := 50) (S := _) (K := fun S' => S' = (([some (.ref 0)], [.ref 1, .ref 24, .ref 24, .ref 0], MM 25 24 (fun _ _ => 0)) : mj_S)) F [.dup, .aload_n 0, .getfield 10] ⟨mj_ade dX11_init 21 rfl, ⟨mj_ade dX11_init 22 rfl, ⟨mj_ade dX11_init 23 rfl, rfl⟩⟩⟩ (show (([some (.ref 0)], [.ref 1, .ref 24, .ref 24, .ref 0], MM 25 24 (fun _ _ => 0)) : mj_S) = ([some (.ref 0)], [.ref 1, .ref 24, .ref 24, .ref 0], MM 25 24 (fun _ _ => 0)) from rfl) (fun S' h => ?_)
  subst h
  refine mj_ctor_ok (d' := 1) (n := 1) (as := [.ref 1]) (a := 24) (host := "GunLine") F (mj_ade dX11_init 24 rfl) (ctX7_init_24 Ω l) fX7_init rfl rfl iX7_init (by decide +kernel) rfl (Or.inl mw_l11_34) ⟨Nat.le_of_ble_eq_true rfl, Nat.le_of_ble_eq_true rfl⟩ ⟨Nat.le_of_ble_eq_true rfl, Nat.le_of_ble_eq_true rfl⟩ (Nat.le_of_ble_eq_true rfl) (fun r M' h => ?_)
  obtain ⟨rfl, rfl⟩ := h
  show mj_Wg _ _ _ _ _ _ _ _ _ _ _ _ _ 25 1616 _ 53 (([some (.ref 0)], [.ref 24, .ref 0], MM 26 26 (fun _ _ => 0)) : mj_S)
  refine mj_run_ok (pe := 57) (S := _) (K := fun S' => S' = (([some (.ref 0)], [.ref 0], MM 26 27 (fun _ _ => 0)) : mj_S)) F [.putfield 35, .aload_n 0] ⟨mj_ade dX11_init 25 rfl, ⟨mj_ade dX11_init 26 rfl, rfl⟩⟩ (show (([some (.ref 0)], [.ref 0], MM 26 27 (fun _ _ => 0)) : mj_S) = ([some (.ref 0)], [.ref 0], MM 26 27 (fun _ _ => 0)) from rfl) (fun S' h => ?_)
  subst h
  refine mj_new_ok (ci := 1) (q := (RX1, TX1, 1)) F (mj_ade dX11_init 27 rfl) rfl mw_cl11_39 mw_in1 mw_iz1 (Nat.le_of_ble_eq_true rfl) (fun _ => rfl) (fun _ => rfl) (fun _ => rfl) (Nat.le_of_ble_eq_true rfl) (Nat.le_of_ble_eq_true rfl) ?_
  show mj_Wg _ _ _ _ _ _ _ _ _ _ _ _ _ 26 1617 _ 60 (([some (.ref 0)], [.ref 26, .ref 0], MM 27 27 (fun _ _ => 0)) : mj_S)
  refine mj_run_ok (pe := 61) (S := _) (K := fun S' => S' = (([some (.ref 0)], [.ref 26, .ref 26, .ref 0], MM 27 27 (fun _ _ => 0)) : mj_S)) F [.dup] ⟨mj_ade dX11_init 28 rfl, rfl⟩ (show (([some (.ref 0)], [.ref 26, .ref 26, .ref 0], MM 27 27 (fun _ _ => 0)) : mj_S) = ([some (.ref 0)], [.ref 26, .ref 26, .ref 0], MM 27 27 (fun _ _ => 0)) from rfl) (fun S' h => ?_)
  subst h
  refine mj_ctor_ok (d' := 1) (n := 0) (as := []) (a := 26) (host := "GunLine") F (mj_ade dX11_init 29 rfl) (ctX1_init_26 Ω l) fX1_init rfl rfl iX1_init (by decide +kernel) rfl (Or.inr mw_l11_41) ⟨Nat.le_of_ble_eq_true rfl, Nat.le_of_ble_eq_true rfl⟩ ⟨Nat.le_of_ble_eq_true rfl, Nat.le_of_ble_eq_true rfl⟩ (Nat.le_of_ble_eq_true rfl) (fun r M' h => ?_)
  obtain ⟨rfl, rfl⟩ := h
  show mj_Wg _ _ _ _ _ _ _ _ _ _ _ _ _ 27 1624 _ 64 (([some (.ref 0)], [.ref 26, .ref 0], MM 28 28 (fun _ _ => 0)) : mj_S)
  refine mj_run_ok (pe := 68) (S := _) (K := fun S' => S' = (([some (.ref 0)], [.ref 0], MM 28 29 (fun _ _ => 0)) : mj_S)) F [.putfield 42, .aload_n 0] ⟨mj_ade dX11_init 30 rfl, ⟨mj_ade dX11_init 31 rfl, rfl⟩⟩ (show (([some (.ref 0)], [.ref 0], MM 28 29 (fun _ _ => 0)) : mj_S) = ([some (.ref 0)], [.ref 0], MM 28 29 (fun _ _ => 0)) from rfl) (fun S' h => ?_)
  subst h
  refine mj_new_ok (ci := 1) (q := (RX1, TX1, 1)) F (mj_ade dX11_init 32 rfl) rfl mw_cl11_39 mw_in1 mw_iz1 (Nat.le_of_ble_eq_true rfl) (fun _ => rfl) (fun _ => rfl) (fun _ => rfl) (Nat.le_of_ble_eq_true rfl) (Nat.le_of_ble_eq_true rfl) ?_
  show mj_Wg _ _ _ _ _ _ _ _ _ _ _ _ _ 28 1625 _ 71 (([some (.ref 0)], [.ref 28, .ref 0], MM 29 29 (fun _ _ => 0)) : mj_S)
  refine mj_run_ok (pe := 72) (S := _) (K := fun S' => S' = (([some (.ref 0)], [.ref 28, .ref 28, .ref 0], MM 29 29 (fun _ _ => 0)) : mj_S)) F [.dup] ⟨mj_ade dX11_init 33 rfl, rfl⟩ (show (([some (.ref 0)], [.ref 28, .ref 28, .ref 0], MM 29 29 (fun _ _ => 0)) : mj_S) = ([some (.ref 0)], [.ref 28, .ref 28, .ref 0], MM 29 29 (fun _ _ => 0)) from rfl) (fun S' h => ?_)
  subst h
  refine mj_ctor_ok (d' := 1) (n := 0) (as := []) (a := 28) (host := "GunLine") F (mj_ade dX11_init 34 rfl) (ctX1_init_28 Ω l) fX1_init rfl rfl iX1_init (by decide +kernel) rfl (Or.inr mw_l11_41) ⟨Nat.le_of_ble_eq_true rfl, Nat.le_of_ble_eq_true rfl⟩ ⟨Nat.le_of_ble_eq_true rfl, Nat.le_of_ble_eq_true rfl⟩ (Nat.le_of_ble_eq_true rfl) (fun r M' h => ?_)
  obtain ⟨rfl, rfl⟩ := h
  show mj_Wg _ _ _ _ _ _ _ _ _ _ _ _ _ 29 1632 _ 75 (([some (.ref 0)], [.ref 28, .ref 0], MM 30 30 (fun _ _ => 0)) : mj_S)
  refine mj_run_ok (pe := 79) (S := _) (K := fun S' => S' = (([some (.ref 0)], [.ref 0], MM 30 31 (fun _ _ => 0)) : mj_S)) F [.putfield 46, .aload_n 0] ⟨mj_ade dX11_init 35 rfl, ⟨mj_ade dX11_init 36 rfl, rfl⟩⟩ (show (([some (.ref 0)], [.ref 0], MM 30 31 (fun _ _ => 0)) : mj_S) = ([some (.ref 0)], [.ref 0], MM 30 31 (fun _ _ => 0)) from rfl) (fun S' h => ?_)
  subst h
  refine mj_new_ok (ci := 3) (q := (RX3, TX3, 10)) F (mj_ade dX11_init 37 rfl) rfl mw_cl11_49 mw_in3 mw_iz3 (Nat.le_of_ble_eq_true rfl) (fun _ => rfl) (fun _ => rfl) (fun _ => rfl) (Nat.le_of_ble_eq_true rfl) (Nat.le_of_ble_eq_true rfl) ?_
  show mj_Wg _ _ _ _ _ _ _ _ _ _ _ _ _ 30 1642 _ 82 (([some (.ref 0)], [.ref 30, .ref 0], MM 31 31 (fun _ _ => 0)) : mj_S)
  refine mj_run_ok (pe := 83) (S := _) (K := fun S' => S' = (([some (.ref 0)], [.ref 30, .ref 30, .ref 0], MM 31 31 (fun _ _ => 0)) : mj_S)) F [.dup] ⟨mj_ade dX11_init 38 rfl, rfl⟩ (show (([some (.ref 0)], [.ref 30, .ref 30, .ref 0], MM 31 31 (fun _ _ => 0)) : mj_S) = ([some (.ref 0)], [.ref 30, .ref 30, .ref 0], MM 31 31 (fun _ _ => 0)) from rfl) (fun S' h => ?_)
  subst h
  refine mj_ctor_ok (d' := 1) (n := 0) (as := []) (a := 30) (host := "GunLine") F (mj_ade dX11_init 39 rfl) (ctX3_init_30 Ω l) fX3_init rfl rfl iX3_init (by decide +kernel) rfl (Or.inr mw_l11_51) ⟨Nat.le_of_ble_eq_true rfl, Nat.le_of_ble_eq_true rfl⟩ ⟨Nat.le_of_ble_eq_true rfl, Nat.le_of_ble_eq_true rfl⟩ (Nat.le_of_ble_eq_true rfl) (fun r M' h => ?_)
  obtain ⟨rfl, rfl⟩ := h
  show mj_Wg _ _ _ _ _ _ _ _ _ _ _ _ _ 38 1706 _ 86 (([some (.ref 0)], [.ref 30, .ref 0], MM 39 39 (fun _ _ => 0)) : mj_S)
  refine mj_run_ok (pe := 90) (S := _) (K := fun S' => S' = (([some (.ref 0)], [.ref 0], MM 39 40 (fun _ _ => 0)) : mj_S)) F [.putfield 52, .aload_n 0] ⟨mj_ade dX11_init 40 rfl, ⟨mj_ade dX11_init 41 rfl, rfl⟩⟩ (show (([some (.ref 0)], [.ref 0], MM 39 40 (fun _ _ => 0)) : mj_S) = ([some (.ref 0)], [.ref 0], MM 39 40 (fun _ _ => 0)) from rfl) (fun S' h => ?_)
  subst h
  refine mj_new_ok (ci := 3) (q := (RX3, TX3, 10)) F (mj_ade dX11_init 42 rfl) rfl mw_cl11_49 mw_in3 mw_iz3 (Nat.le_of_ble_eq_true rfl) (fun _ => rfl) (fun _ => rfl) (fun _ => rfl) (Nat.le_of_ble_eq_true rfl) (Nat.le_of_ble_eq_true rfl) ?_
  show mj_Wg _ _ _ _ _ _ _ _ _ _ _ _ _ 39 1716 _ 93 (([some (.ref 0)], [.ref 39, .ref 0], MM 40 40 (fun _ _ => 0)) : mj_S)
  refine mj_run_ok (pe := 94) (S := _) (K := fun S' => S' = (([some (.ref 0)], [.ref 39, .ref 39, .ref 0], MM 40 40 (fun _ _ => 0)) : mj_S)) F [.dup] ⟨mj_ade dX11_init 43 rfl, rfl⟩ (show (([some (.ref 0)], [.ref 39, .ref 39, .ref 0], MM 40 40 (fun _ _ => 0)) : mj_S) = ([some (.ref 0)], [.ref 39, .ref 39, .ref 0], MM 40 40 (fun _ _ => 0)) from rfl) (fun S' h => ?_)
  subst h
  refine mj_ctor_ok (d' := 1) (n := 0) (as := []) (a := 39) (host := "GunLine") F (mj_ade dX11_init 44 rfl) (ctX3_init_39 Ω l) fX3_init rfl rfl iX3_init (by decide +kernel) rfl (Or.inr mw_l11_51) ⟨Nat.le_of_ble_eq_true rfl, Nat.le_of_ble_eq_true rfl⟩ ⟨Nat.le_of_ble_eq_true rfl, Nat.le_of_ble_eq_true rfl⟩ (Nat.le_of_ble_eq_true rfl) (fun r M' h => ?_)
  obtain ⟨rfl, rfl⟩ := h
  show mj_Wg _ _ _ _ _ _ _ _ _ _ _ _ _ 47 1780 _ 97 (([some (.ref 0)], [.ref 39, .ref 0], MM 48 48 (fun _ _ => 0)) : mj_S)
  refine mj_run_ok (pe := 101) (S := _) (K := fun S' => S' = (([some (.ref 0)], [.ref 0], MM 48 49 (fun _ _ => 0)) : mj_S)) F [.putfield 56, .aload_n 0] ⟨mj_ade dX11_init 45 rfl, ⟨mj_ade dX11_init 46 rfl, rfl⟩⟩ (show (([some (.ref 0)], [.ref 0], MM 48 49 (fun _ _ => 0)) : mj_S) = ([some (.ref 0)], [.ref 0], MM 48 49 (fun _ _ => 0)) from rfl) (fun S' h => ?_)
  subst h
  refine mj_new_ok (ci := 3) (q := (RX3, TX3, 10)) F (mj_ade dX11_init 47 rfl) rfl mw_cl11_49 mw_in3 mw_iz3 (Nat.le_of_ble_eq_true rfl) (fun _ => rfl) (fun _ => rfl) (fun _ => rfl) (Nat.le_of_ble_eq_true rfl) (Nat.le_of_ble_eq_true rfl) ?_
  show mj_Wg _ _ _ _ _ _ _ _ _ _ _ _ _ 48 1790 _ 104 (([some (.ref 0)], [.ref 48, .ref 0], MM 49 49 (fun _ _ => 0)) : mj_S)
  refine mj_run_ok (pe := 105) (S := _) (K := fun S' => S' = (([some (.ref 0)], [.ref 48, .ref 48, .ref 0], MM 49 49 (fun _ _ => 0)) : mj_S)) F [.dup] ⟨mj_ade dX11_init 48 rfl, rfl⟩ (show (([some (.ref 0)], [.ref 48, .ref 48, .ref 0], MM 49 49 (fun _ _ => 0)) : mj_S) = ([some (.ref 0)], [.ref 48, .ref 48, .ref 0], MM 49 49 (fun _ _ => 0)) from rfl) (fun S' h => ?_)
  subst h
  refine mj_ctor_ok (d' := 1) (n := 0) (as := []) (a := 48) (host := "GunLine") F (mj_ade dX11_init 49 rfl) (ctX3_init_48 Ω l) fX3_init rfl rfl iX3_init (by decide +kernel) rfl (Or.inr mw_l11_51) ⟨Nat.le_of_ble_eq_true rfl, Nat.le_of_ble_eq_true rfl⟩ ⟨Nat.le_of_ble_eq_true rfl, Nat.le_of_ble_eq_true rfl⟩ (Nat.le_of_ble_eq_true rfl) (fun r M' h => ?_)
  obtain ⟨rfl, rfl⟩ := h
  show mj_Wg _ _ _ _ _ _ _ _ _ _ _ _ _ 56 1854 _ 108 (([some (.ref 0)], [.ref 48, .ref 0], MM 57 57 (fun _ _ => 0)) : mj_S)
  refine mj_run_ok (pe := 112) (S := _) (K := fun S' => S' = (([some (.ref 0)], [.ref 0], MM 57 58 (fun _ _ => 0)) : mj_S)) F [.putfield 59, .aload_n 0] ⟨mj_ade dX11_init 50 rfl, ⟨mj_ade dX11_init 51 rfl, rfl⟩⟩ (show (([some (.ref 0)], [.ref 0], MM 57 58 (fun _ _ => 0)) : mj_S) = ([some (.ref 0)], [.ref 0], MM 57 58 (fun _ _ => 0)) from rfl) (fun S' h => ?_)
  subst h
  refine mj_new_ok (ci := 3) (q := (RX3, TX3, 10)) F (mj_ade dX11_init 52 rfl) rfl mw_cl11_49 mw_in3 mw_iz3 (Nat.le_of_ble_eq_true rfl) (fun _ => rfl) (fun _ => rfl) (fun _ => rfl) (Nat.le_of_ble_eq_true rfl) (Nat.le_of_ble_eq_true rfl) ?_
  show mj_Wg _ _ _ _ _ _ _ _ _ _ _ _ _ 57 1864 _ 115 (([some (.ref 0)], [.ref 57, .ref 0], MM 58 58 (fun _ _ => 0)) : mj_S)
  refine mj_run_ok (pe := 116) (S := _) (K := fun S' => S' = (([some (.ref 0)], [.ref 57, .ref 57, .ref 0], MM 58 58 (fun _ _ => 0)) : mj_S)) F [.dup] ⟨mj_ade dX11_init 53 rfl, rfl⟩ (show (([some (.ref 0)], [.ref 57, .ref 57, .ref 0], MM 58 58 (fun _ _ => 0)) : mj_S) = ([some (.ref 0)], [.ref 57, .ref 57, .ref 0], MM 58 58 (fun _ _ => 0)) from rfl) (fun S' h => ?_)
  subst h
  refine mj_ctor_ok (d' := 1) (n := 0) (as := []) (a := 57) (host := "GunLine") F (mj_ade dX11_init 54 rfl) (ctX3_init_57 Ω l) fX3_init rfl rfl iX3_init (by decide +kernel) rfl (Or.inr mw_l11_51) ⟨Nat.le_of_ble_eq_true rfl, Nat.le_of_ble_eq_true rfl⟩ ⟨Nat.le_of_ble_eq_true rfl, Nat.le_of_ble_eq_true rfl⟩ (Nat.le_of_ble_eq_true rfl) (fun r M' h => ?_)
  obtain ⟨rfl, rfl⟩ := h
  show mj_Wg _ _ _ _ _ _ _ _ _ _ _ _ _ 65 1928 _ 119 (([some (.ref 0)], [.ref 57, .ref 0], MM 66 66 (fun _ _ => 0)) : mj_S)
  refine mj_run_ok (pe := 123) (S := _) (K := fun S' => S' = (([some (.ref 0)], [.ref 0], MM 66 67 (fun _ _ => 0)) : mj_S)) F [.putfield 62, .aload_n 0] ⟨mj_ade dX11_init 55 rfl, ⟨mj_ade dX11_init 56 rfl, rfl⟩⟩ (show (([some (.ref 0)], [.ref 0], MM 66 67 (fun _ _ => 0)) : mj_S) = ([some (.ref 0)], [.ref 0], MM 66 67 (fun _ _ => 0)) from rfl) (fun S' h => ?_)
  subst h
  refine mj_new_ok (ci := 3) (q := (RX3, TX3, 10)) F (mj_ade dX11_init 57 rfl) rfl mw_cl11_49 mw_in3 mw_iz3 (Nat.le_of_ble_eq_true rfl) (fun _ => rfl) (fun _ => rfl) (fun _ => rfl) (Nat.le_of_ble_eq_true rfl) (Nat.le_of_ble_eq_true rfl) ?_
  show mj_Wg _ _ _ _ _ _ _ _ _ _ _ _ _ 66 1938 _ 126 (([some (.ref 0)], [.ref 66, .ref 0], MM 67 67 (fun _ _ => 0)) : mj_S)
  refine mj_run_ok (pe := 127) (S := _) (K := fun S' => S' = (([some (.ref 0)], [.ref 66, .ref 66, .ref 0], MM 67 67 (fun _ _ => 0)) : mj_S)) F [.dup] ⟨mj_ade dX11_init 58 rfl, rfl⟩ (show (([some (.ref 0)], [.ref 66, .ref 66, .ref 0], MM 67 67 (fun _ _ => 0)) : mj_S) = ([some (.ref 0)], [.ref 66, .ref 66, .ref 0], MM 67 67 (fun _ _ => 0)) from rfl) (fun S' h => ?_)
  subst h
  refine mj_ctor_ok (d' := 1) (n := 0) (as := []) (a := 66) (host := "GunLine") F (mj_ade dX11_init 59 rfl) (ctX3_init_66 Ω l) fX3_init rfl rfl iX3_init (by decide +kernel) rfl (Or.inr mw_l11_51) ⟨Nat.le_of_ble_eq_true rfl, Nat.le_of_ble_eq_true rfl⟩ ⟨Nat.le_of_ble_eq_true rfl, Nat.le_of_ble_eq_true rfl⟩ (Nat.le_of_ble_eq_true rfl) (fun r M' h => ?_)
  obtain ⟨rfl, rfl⟩ := h
  show mj_Wg _ _ _ _ _ _ _ _ _ _ _ _ _ 74 2002 _ 130 (([some (.ref 0)], [.ref 66, .ref 0], MM 75 75 (fun _ _ => 0)) : mj_S)
  refine mj_run_ok (pe := 134) (S := _) (K := fun S' => S' = (([some (.ref 0)], [.ref 0], MM 75 76 (fun _ _ => 0)) : mj_S)) F [.putfield 65, .aload_n 0] ⟨mj_ade dX11_init 60 rfl, ⟨mj_ade dX11_init 61 rfl, rfl⟩⟩ (show (([some (.ref 0)], [.ref 0], MM 75 76 (fun _ _ => 0)) : mj_S) = ([some (.ref 0)], [.ref 0], MM 75 76 (fun _ _ => 0)) from rfl) (fun S' h => ?_)
  subst h
  refine mj_new_ok (ci := 4) (q := (RX4, TX4, 4)) F (mj_ade dX11_init 62 rfl) rfl mw_cl11_68 mw_in4 mw_iz4 (Nat.le_of_ble_eq_true rfl) (fun _ => rfl) (fun _ => rfl) (fun _ => rfl) (Nat.le_of_ble_eq_true rfl) (Nat.le_of_ble_eq_true rfl) ?_
  show mj_Wg _ _ _ _ _ _ _ _ _ _ _ _ _ 75 2006 _ 137 (([some (.ref 0)], [.ref 75, .ref 0], MM 76 76 (fun _ _ => 0)) : mj_S)
  refine mj_run_ok (pe := 142) (S := _) (K := fun S' => S' = (([some (.ref 0)], [.ref 3, .ref 75, .ref 75, .ref 0], MM 76 76 (fun _ _ => 0)) : mj_S)) F [.dup, .aload_n 0, .getfield 19] ⟨mj_ade dX11_init 63 rfl, ⟨mj_ade dX11_init 64 rfl, ⟨mj_ade dX11_init 65 rfl, rfl⟩⟩⟩ (show (([some (.ref 0)], [.ref 3, .ref 75, .ref 75, .ref 0], MM 76 76 (fun _ _ => 0)) : mj_S) = ([some (.ref 0)], [.ref 3, .ref 75, .ref 75, .ref 0], MM 76 76 (fun _ _ => 0)) from rfl) (fun S' h => ?_)
  subst h
  refine mj_ctor_ok (d' := 1) (n := 1) (as := [.ref 3]) (a := 75) (host := "GunLine") F (mj_ade dX11_init 66 rfl) (ctX4_init_75 Ω l) fX4_init rfl rfl iX4_init (by decide +kernel) rfl (Or.inl mw_l11_70) ⟨Nat.le_of_ble_eq_true rfl, Nat.le_of_ble_eq_true rfl⟩ ⟨Nat.le_of_ble_eq_true rfl, Nat.le_of_ble_eq_true rfl⟩ (Nat.le_of_ble_eq_true rfl) (fun r M' h => ?_)
  obtain ⟨rfl, rfl⟩ := h
  show mj_Wg _ _ _ _ _ _ _ _ _ _ _ _ _ 78 2029 _ 145 (([some (.ref 0)], [.ref 75, .ref 0], MM 79 80 (fun _ _ => 0)) : mj_S)
  refine mj_run_ok (pe := 149) (S := _) (K := fun S' => S' = (([some (.ref 0)], [.ref 0], MM 79 81 (fun _ _ => 0)) : mj_S)) F [.putfield 73, .aload_n 0] ⟨mj_ade dX11_init 67 rfl, ⟨mj_ade dX11_init 68 rfl, rfl⟩⟩ (show (([some (.ref 0)], [.ref 0], MM 79 81 (fun _ _ => 0)) : mj_S) = ([some (.ref 0)], [.ref 0], MM 79 81 (fun _ _ => 0)) from rfl) (fun S' h => ?_)
  subst h
  refine mj_new_ok (ci := 2) (q := (RX2, TX2, 1)) F (mj_ade dX11_init 69 rfl) rfl mw_cl11_77 mw_in2 mw_iz2 (Nat.le_of_ble_eq_true rfl) (fun _ => rfl) (fun _ => rfl) (fun _ => rfl) (Nat.le_of_ble_eq_true rfl) (Nat.le_of_ble_eq_true rfl) ?_
  show mj_Wg _ _ _ _ _ _ _ _ _ _ _ _ _ 79 2030 _ 152 (([some (.ref 0)], [.ref 79, .ref 0], MM 80 81 (fun _ _ => 0)) : mj_S)
  refine mj_run_ok (pe := 153) (S := _) (K := fun S' => S' = (([some (.ref 0)], [.ref 79, .ref 79, .ref 0], MM 80 81 (fun _ _ => 0)) : mj_S)) F [.dup] ⟨mj_ade dX11_init 70 rfl, rfl⟩ (show (([some (.ref 0)], [.ref 79, .ref 79, .ref 0], MM 80 81 (fun _ _ => 0)) : mj_S) = ([some (.ref 0)], [.ref 79, .ref 79, .ref 0], MM 80 81 (fun _ _ => 0)) from rfl) (fun S' h => ?_)
  subst h
  refine mj_ctor_ok (d' := 1) (n := 0) (as := []) (a := 79) (host := "GunLine") F (mj_ade dX11_init 71 rfl) (ctX2_init_79 Ω l) fX2_init rfl rfl iX2_init (by decide +kernel) rfl (Or.inr mw_l11_79) ⟨Nat.le_of_ble_eq_true rfl, Nat.le_of_ble_eq_true rfl⟩ ⟨Nat.le_of_ble_eq_true rfl, Nat.le_of_ble_eq_true rfl⟩ (Nat.le_of_ble_eq_true rfl) (fun r M' h => ?_)
  obtain ⟨rfl, rfl⟩ := h
  show mj_Wg _ _ _ _ _ _ _ _ _ _ _ _ _ 79 2030 _ 156 (([some (.ref 0)], [.ref 79, .ref 0], MM 80 81 (fun _ _ => 0)) : mj_S)
  refine mj_run_ok (pe := 160) (S := _) (K := fun S' => S' = (([some (.ref 0)], [.ref 0], MM 80 82 (fun _ _ => 0)) : mj_S)) F [.putfield 80, .aload_n 0] ⟨mj_ade dX11_init 72 rfl, ⟨mj_ade dX11_init 73 rfl, rfl⟩⟩ (show (([some (.ref 0)], [.ref 0], MM 80 82 (fun _ _ => 0)) : mj_S) = ([some (.ref 0)], [.ref 0], MM 80 82 (fun _ _ => 0)) from rfl) (fun S' h => ?_)
  subst h
  refine mj_new_ok (ci := 0) (q := (RX0, TX0, 3)) F (mj_ade dX11_init 74 rfl) rfl mw_cl11_84 mw_in0 mw_iz0 (Nat.le_of_ble_eq_true rfl) (fun _ => rfl) (fun _ => rfl) (fun _ => rfl) (Nat.le_of_ble_eq_true rfl) (Nat.le_of_ble_eq_true rfl) ?_
  show mj_Wg _ _ _ _ _ _ _ _ _ _ _ _ _ 80 2033 _ 163 (([some (.ref 0)], [.ref 80, .ref 0], MM 81 82 (fun _ _ => 0)) : mj_S)
  refine mj_run_ok (pe := 164) (S := _) (K := fun S' => S' = (([some (.ref 0)], [.ref 80, .ref 80, .ref 0], MM 81 82 (fun _ _ => 0)) : mj_S)) F [.dup] ⟨mj_ade dX11_init 75 rfl, rfl⟩ (show (([some (.ref 0)], [.ref 80, .ref 80, .ref 0], MM 81 82 (fun _ _ => 0)) : mj_S) = ([some (.ref 0)], [.ref 80, .ref 80, .ref 0], MM 81 82 (fun _ _ => 0)) from rfl) (fun S' h => ?_)
  subst h
  refine mj_ctor_ok (d' := 1) (n := 0) (as := []) (a := 80) (host := "GunLine") F (mj_ade dX11_init 76 rfl) (ctX0_init_80 Ω l) fX0_init rfl rfl iX0_init (by decide +kernel) rfl (Or.inr mw_l11_86) ⟨Nat.le_of_ble_eq_true rfl, Nat.le_of_ble_eq_true rfl⟩ ⟨Nat.le_of_ble_eq_true rfl, Nat.le_of_ble_eq_true rfl⟩ (Nat.le_of_ble_eq_true rfl) (fun r M' h => ?_)
  obtain ⟨rfl, rfl⟩ := h
  show mj_Wg _ _ _ _ _ _ _ _ _ _ _ _ _ 81 3993 _ 167 (([some (.ref 0)], [.ref 80, .ref 0], MM 82 83 (fun _ _ => 0)) : mj_S)
  refine mj_run_ok (pe := 171) (S := _) (K := fun S' => S' = (([some (.ref 0)], [.ref 0], MM 82 84 (fun _ _ => 0)) : mj_S)) F [.putfield 87, .aload_n 0] ⟨mj_ade dX11_init 77 rfl, ⟨mj_ade dX11_init 78 rfl, rfl⟩⟩ (show (([some (.ref 0)], [.ref 0], MM 82 84 (fun _ _ => 0)) : mj_S) = ([some (.ref 0)], [.ref 0], MM 82 84 (fun _ _ => 0)) from rfl) (fun S' h => ?_)
  subst h
  refine mj_new_ok (ci := 9) (q := (RX9, TX9, 5)) F (mj_ade dX11_init 79 rfl) rfl mw_cl11_91 mw_in9 mw_iz9 (Nat.le_of_ble_eq_true rfl) (fun _ => rfl) (fun _ => rfl) (fun _ => rfl) (Nat.le_of_ble_eq_true rfl) (Nat.le_of_ble_eq_true rfl) ?_
  show mj_Wg _ _ _ _ _ _ _ _ _ _ _ _ _ 82 3998 _ 174 (([some (.ref 0)], [.ref 82, .ref 0], MM 83 84 (fun _ _ => 0)) : mj_S)
  refine mj_run_ok (pe := 175) (S := _) (K := fun S' => S' = (([some (.ref 0)], [.ref 82, .ref 82, .ref 0], MM 83 84 (fun _ _ => 0)) : mj_S)) F [.dup] ⟨mj_ade dX11_init 80 rfl, rfl⟩ (show (([some (.ref 0)], [.ref 82, .ref 82, .ref 0], MM 83 84 (fun _ _ => 0)) : mj_S) = ([some (.ref 0)], [.ref 82, .ref 82, .ref 0], MM 83 84 (fun _ _ => 0)) from rfl) (fun S' h => ?_)
  subst h
  refine mj_ctor_ok (d' := 1) (n := 0) (as := []) (a := 82) (host := "GunLine") F (mj_ade dX11_init 81 rfl) (ctX9_init_82 Ω l) fX9_init rfl rfl iX9_init (by decide +kernel) rfl (Or.inr mw_l11_93) ⟨Nat.le_of_ble_eq_true rfl, Nat.le_of_ble_eq_true rfl⟩ ⟨Nat.le_of_ble_eq_true rfl, Nat.le_of_ble_eq_true rfl⟩ (Nat.le_of_ble_eq_true rfl) (fun r M' h => ?_)
  obtain ⟨rfl, rfl⟩ := h
  show mj_Wg _ _ _ _ _ _ _ _ _ _ _ _ _ 85 4009 _ 178 (([some (.ref 0)], [.ref 82, .ref 0], MM 86 87 (fun _ _ => 0)) : mj_S)
  refine mj_run_ok (pe := 182) (S := _) (K := fun S' => S' = (([some (.ref 0)], [.ref 0], MM 86 88 (fun _ _ => 0)) : mj_S)) F [.putfield 94, .aload_n 0] ⟨mj_ade dX11_init 82 rfl, ⟨mj_ade dX11_init 83 rfl, rfl⟩⟩ (show (([some (.ref 0)], [.ref 0], MM 86 88 (fun _ _ => 0)) : mj_S) = ([some (.ref 0)], [.ref 0], MM 86 88 (fun _ _ => 0)) from rfl) (fun S' h => ?_)
  subst h
  refine mj_new_ok (ci := 5) (q := (RX5, TX5, 6)) F (mj_ade dX11_init 84 rfl) rfl mw_cl11_98 mw_in5 mw_iz5 (Nat.le_of_ble_eq_true rfl) (fun _ => rfl) (fun _ => rfl) (fun _ => rfl) (Nat.le_of_ble_eq_true rfl) (Nat.le_of_ble_eq_true rfl) ?_
  show mj_Wg _ _ _ _ _ _ _ _ _ _ _ _ _ 86 4015 _ 185 (([some (.ref 0)], [.ref 86, .ref 0], MM 87 88 (fun _ _ => 0)) : mj_S)
  refine mj_run_ok (pe := 186) (S := _) (K := fun S' => S' = (([some (.ref 0)], [.ref 86, .ref 86, .ref 0], MM 87 88 (fun _ _ => 0)) : mj_S)) F [.dup] ⟨mj_ade dX11_init 85 rfl, rfl⟩ (show (([some (.ref 0)], [.ref 86, .ref 86, .ref 0], MM 87 88 (fun _ _ => 0)) : mj_S) = ([some (.ref 0)], [.ref 86, .ref 86, .ref 0], MM 87 88 (fun _ _ => 0)) from rfl) (fun S' h => ?_)
  subst h
  refine mj_ctor_ok (d' := 1) (n := 0) (as := []) (a := 86) (host := "GunLine") F (mj_ade dX11_init 86 rfl) (ctX5_init_86 Ω l) fX5_init rfl rfl iX5_init (by decide +kernel) rfl (Or.inr mw_l11_100) ⟨Nat.le_of_ble_eq_true rfl, Nat.le_of_ble_eq_true rfl⟩ ⟨Nat.le_of_ble_eq_true rfl, Nat.le_of_ble_eq_true rfl⟩ (Nat.le_of_ble_eq_true rfl) (fun r M' h => ?_)
  obtain ⟨rfl, rfl⟩ := h
  show mj_Wg _ _ _ _ _ _ _ _ _ _ _ _ _ 90 4047 _ 189 (([some (.ref 0)], [.ref 86, .ref 0], MM 91 92 (fun _ _ => 0)) : mj_S)
  refine mj_run_ok (pe := 192) (S := _) (K := fun S' => S' = (([some (.ref 0)], [], MM 91 93 (fun _ _ => 0)) : mj_S)) F [.putfield 101] ⟨mj_ade dX11_init 87 rfl, rfl⟩ (show (([some (.ref 0)], [], MM 91 93 (fun _ _ => 0)) : mj_S) = ([some (.ref 0)], [], MM 91 93 (fun _ _ => 0)) from rfl) (fun S' h => ?_)
  subst h
  exact mj_ret_ok F (mj_ade dX11_init 88 rfl) ⟨rfl, rfl⟩
set_option maxRecDepth 100000 in
set_option maxHeartbeats 4000000 in
theorem ctX12_init_91 (Ω : mj_Om) (l : Launch) : mj_Met Ω l true mX12_init 1 28 10261 [.ref 91] (MM 92 93 (fun _ _ => 0)) (fun r M' => r = none ∧ M' = MM 120 121 (mj_ui (fun _ _ => 0) 91 25 (-1))) := by
  refine mj_entry (by decide) rfl (fun _ => rfl) (by decide) ?_
  intro p e s m args below meth c F
  show mj_Wg _ _ _ _ _ _ _ _ _ _ _ _ _ 0 0 _ 0 (([some (.ref 91)], [], MM 92 93 (fun _ _ => 0)) : mj_S)
  refine mj_run_ok (pe := 1) (S := _) (K := fun S' => S' = (([some (.ref 91)], [.ref 91], MM 92 93 (fun _ _ => 0)) : mj_S)) F [.aload_n 0] ⟨mj_ade dX12_init 0 rfl, rfl⟩ (show (([some (.ref 91)], [.ref 91], MM 92 93 (fun _ _ => 0)) : mj_S) = ([some (.ref 91)], [.ref 91], MM 92 93 (fun _ _ => 0)) from rfl) (fun S' h => ?_)
  subst h
  refine mj_obj_ok F (mj_ade dX12_init 1 rfl) mw_ol12 mw_oi mw_oc (Nat.le_of_ble_eq_true rfl) (Nat.le_of_ble_eq_true rfl) ?_
  show mj_Wg _ _ _ _ _ _ _ _ _ _ _ _ _ 0 0 _ 4 (([some (.ref 91)], [], MM 92 93 (fun _ _ => 0)) : mj_S)
  refine mj_run_ok (pe := 8) (S := _) (K := fun S' => S' = (([some (.ref 91)], [.int 240, .ref 91], MM 92 93 (fun _ _ => 0)) : mj_S)) F [.aload_n 0, .sipush 240] ⟨mj_ade dX12_init 2 rfl, ⟨mj_ade dX12_init 3 rfl, rfl⟩⟩ (show (([some (.ref 91)], [.int 240, .ref 91], MM 92 93 (fun _ _ => 0)) : mj_S) = ([some (.ref 91)], [.int 240, .ref 91], MM 92 93 (fun _ _ => 0)) from rfl) (fun S' h => ?_)
  subst h
  refine mj_newa_ok (t := 0) (N := 240) F (by decide) (mj_ade dX12_init 4 rfl) mw_ar0 (by decide) (by decide) (by decide) (Nat.le_of_ble_eq_true rfl) (fun _ => rfl) (fun _ => rfl) (Nat.le_of_ble_eq_true rfl) (Nat.le_of_ble_eq_true rfl) ?_
  show mj_Wg _ _ _ _ _ _ _ _ _ _ _ _ _ 1 240 _ 10 (([some (.ref 91)], [.ref 92, .ref 91], MM 93 93 (fun _ _ => 0)) : mj_S)
  refine mj_run_ok (pe := 17) (S := _) (K := fun S' => S' = (([some (.ref 91)], [.int 2600, .ref 91], MM 93 94 (fun _ _ => 0)) : mj_S)) F [.putfield 9, .aload_n 0, .sipush 2600] ⟨mj_ade dX12_init 5 rfl, ⟨mj_ade dX12_init 6 rfl, ⟨mj_ade dX12_init 7 rfl, rfl⟩⟩⟩ (show (([some (.ref 91)], [.int 2600, .ref 91], MM 93 94 (fun _ _ => 0)) : mj_S) = ([some (.ref 91)], [.int 2600, .ref 91], MM 93 94 (fun _ _ => 0)) from rfl) (fun S' h => ?_)
  subst h
  refine mj_newa_ok (t := 0) (N := 2600) F (by decide) (mj_ade dX12_init 8 rfl) mw_ar0 (by decide) (by decide) (by decide) (Nat.le_of_ble_eq_true rfl) (fun _ => rfl) (fun _ => rfl) (Nat.le_of_ble_eq_true rfl) (Nat.le_of_ble_eq_true rfl) ?_
  show mj_Wg _ _ _ _ _ _ _ _ _ _ _ _ _ 2 2840 _ 19 (([some (.ref 91)], [.ref 93, .ref 91], MM 94 94 (fun _ _ => 0)) : mj_S)
  refine mj_run_ok (pe := 26) (S := _) (K := fun S' => S' = (([some (.ref 91)], [.int 2600, .ref 91], MM 94 95 (fun _ _ => 0)) : mj_S)) F [.putfield 13, .aload_n 0, .sipush 2600] ⟨mj_ade dX12_init 9 rfl, ⟨mj_ade dX12_init 10 rfl, ⟨mj_ade dX12_init 11 rfl, rfl⟩⟩⟩ (show (([some (.ref 91)], [.int 2600, .ref 91], MM 94 95 (fun _ _ => 0)) : mj_S) = ([some (.ref 91)], [.int 2600, .ref 91], MM 94 95 (fun _ _ => 0)) from rfl) (fun S' h => ?_)
  subst h
  refine mj_newa_ok (t := 0) (N := 2600) F (by decide) (mj_ade dX12_init 12 rfl) mw_ar0 (by decide) (by decide) (by decide) (Nat.le_of_ble_eq_true rfl) (fun _ => rfl) (fun _ => rfl) (Nat.le_of_ble_eq_true rfl) (Nat.le_of_ble_eq_true rfl) ?_
  show mj_Wg _ _ _ _ _ _ _ _ _ _ _ _ _ 3 5440 _ 28 (([some (.ref 91)], [.ref 94, .ref 91], MM 95 95 (fun _ _ => 0)) : mj_S)
  refine mj_run_ok (pe := 33) (S := _) (K := fun S' => S' = (([some (.ref 91)], [.int 5, .ref 91], MM 95 96 (fun _ _ => 0)) : mj_S)) F [.putfield 16, .aload_n 0, .iconst 5] ⟨mj_ade dX12_init 13 rfl, ⟨mj_ade dX12_init 14 rfl, ⟨mj_ade dX12_init 15 rfl, rfl⟩⟩⟩ (show (([some (.ref 91)], [.int 5, .ref 91], MM 95 96 (fun _ _ => 0)) : mj_S) = ([some (.ref 91)], [.int 5, .ref 91], MM 95 96 (fun _ _ => 0)) from rfl) (fun S' h => ?_)
  subst h
  refine mj_newa_ok (t := 0) (N := 5) F (by decide) (mj_ade dX12_init 16 rfl) mw_ar0 (by decide) (by decide) (by decide) (Nat.le_of_ble_eq_true rfl) (fun _ => rfl) (fun _ => rfl) (Nat.le_of_ble_eq_true rfl) (Nat.le_of_ble_eq_true rfl) ?_
  show mj_Wg _ _ _ _ _ _ _ _ _ _ _ _ _ 4 5445 _ 35 (([some (.ref 91)], [.ref 95, .ref 91], MM 96 96 (fun _ _ => 0)) : mj_S)
  refine mj_run_ok (pe := 40) (S := _) (K := fun S' => S' = (([some (.ref 91)], [.int 5, .ref 91], MM 96 97 (fun _ _ => 0)) : mj_S)) F [.putfield 19, .aload_n 0, .iconst 5] ⟨mj_ade dX12_init 17 rfl, ⟨mj_ade dX12_init 18 rfl, ⟨mj_ade dX12_init 19 rfl, rfl⟩⟩⟩ (show (([some (.ref 91)], [.int 5, .ref 91], MM 96 97 (fun _ _ => 0)) : mj_S) = ([some (.ref 91)], [.int 5, .ref 91], MM 96 97 (fun _ _ => 0)) from rfl) (fun S' h => ?_)
  subst h
  refine mj_newa_ok (t := 0) (N := 5) F (by decide) (mj_ade dX12_init 20 rfl) mw_ar0 (by decide) (by decide) (by decide) (Nat.le_of_ble_eq_true rfl) (fun _ => rfl) (fun _ => rfl) (Nat.le_of_ble_eq_true rfl) (Nat.le_of_ble_eq_true rfl) ?_
  show mj_Wg _ _ _ _ _ _ _ _ _ _ _ _ _ 5 5450 _ 42 (([some (.ref 91)], [.ref 96, .ref 91], MM 97 97 (fun _ _ => 0)) : mj_S)
  refine mj_run_ok (pe := 49) (S := _) (K := fun S' => S' = (([some (.ref 91)], [.int 700, .ref 91], MM 97 98 (fun _ _ => 0)) : mj_S)) F [.putfield 22, .aload_n 0, .sipush 700] ⟨mj_ade dX12_init 21 rfl, ⟨mj_ade dX12_init 22 rfl, ⟨mj_ade dX12_init 23 rfl, rfl⟩⟩⟩ (show (([some (.ref 91)], [.int 700, .ref 91], MM 97 98 (fun _ _ => 0)) : mj_S) = ([some (.ref 91)], [.int 700, .ref 91], MM 97 98 (fun _ _ => 0)) from rfl) (fun S' h => ?_)
  subst h
  refine mj_newa_ok (t := 0) (N := 700) F (by decide) (mj_ade dX12_init 24 rfl) mw_ar0 (by decide) (by decide) (by decide) (Nat.le_of_ble_eq_true rfl) (fun _ => rfl) (fun _ => rfl) (Nat.le_of_ble_eq_true rfl) (Nat.le_of_ble_eq_true rfl) ?_
  show mj_Wg _ _ _ _ _ _ _ _ _ _ _ _ _ 6 6150 _ 51 (([some (.ref 91)], [.ref 97, .ref 91], MM 98 98 (fun _ _ => 0)) : mj_S)
  refine mj_run_ok (pe := 58) (S := _) (K := fun S' => S' = (([some (.ref 91)], [.int 700, .ref 91], MM 98 99 (fun _ _ => 0)) : mj_S)) F [.putfield 25, .aload_n 0, .sipush 700] ⟨mj_ade dX12_init 25 rfl, ⟨mj_ade dX12_init 26 rfl, ⟨mj_ade dX12_init 27 rfl, rfl⟩⟩⟩ (show (([some (.ref 91)], [.int 700, .ref 91], MM 98 99 (fun _ _ => 0)) : mj_S) = ([some (.ref 91)], [.int 700, .ref 91], MM 98 99 (fun _ _ => 0)) from rfl) (fun S' h => ?_)
  subst h
  refine mj_newa_ok (t := 0) (N := 700) F (by decide) (mj_ade dX12_init 28 rfl) mw_ar0 (by decide) (by decide) (by decide) (Nat.le_of_ble_eq_true rfl) (fun _ => rfl) (fun _ => rfl) (Nat.le_of_ble_eq_true rfl) (Nat.le_of_ble_eq_true rfl) ?_
  show mj_Wg _ _ _ _ _ _ _ _ _ _ _ _ _ 7 6850 _ 60 (([some (.ref 91)], [.ref 98, .ref 91], MM 99 99 (fun _ _ => 0)) : mj_S)
  refine mj_run_ok (pe := 67) (S := _) (K := fun S' => S' = (([some (.ref 91)], [.int 700, .ref 91], MM 99 100 (fun _ _ => 0)) : mj_S)) F [.putfield 28, .aload_n 0, .sipush 700] ⟨mj_ade dX12_init 29 rfl, ⟨mj_ade dX12_init 30 rfl, ⟨mj_ade dX12_init 31 rfl, rfl⟩⟩⟩ (show (([some (.ref 91)], [.int 700, .ref 91], MM 99 100 (fun _ _ => 0)) : mj_S) = ([some (.ref 91)], [.int 700, .ref 91], MM 99 100 (fun _ _ => 0)) from rfl) (fun S' h => ?_)
  subst h
  refine mj_newa_ok (t := 0) (N := 700) F (by decide) (mj_ade dX12_init 32 rfl) mw_ar0 (by decide) (by decide) (by decide) (Nat.le_of_ble_eq_true rfl) (fun _ => rfl) (fun _ => rfl) (Nat.le_of_ble_eq_true rfl) (Nat.le_of_ble_eq_true rfl) ?_
  show mj_Wg _ _ _ _ _ _ _ _ _ _ _ _ _ 8 7550 _ 69 (([some (.ref 91)], [.ref 99, .ref 91], MM 100 100 (fun _ _ => 0)) : mj_S)
  refine mj_run_ok (pe := 75) (S := _) (K := fun S' => S' = (([some (.ref 91)], [.int 7, .ref 91], MM 100 101 (fun _ _ => 0)) : mj_S)) F [.putfield 31, .aload_n 0, .bipush 7] ⟨mj_ade dX12_init 33 rfl, ⟨mj_ade dX12_init 34 rfl, ⟨mj_ade dX12_init 35 rfl, rfl⟩⟩⟩ (show (([some (.ref 91)], [.int 7, .ref 91], MM 100 101 (fun _ _ => 0)) : mj_S) = ([some (.ref 91)], [.int 7, .ref 91], MM 100 101 (fun _ _ => 0)) from rfl) (fun S' h => ?_)
  subst h
  refine mj_newa_ok (t := 0) (N := 7) F (by decide) (mj_ade dX12_init 36 rfl) mw_ar0 (by decide) (by decide) (by decide) (Nat.le_of_ble_eq_true rfl) (fun _ => rfl) (fun _ => rfl) (Nat.le_of_ble_eq_true rfl) (Nat.le_of_ble_eq_true rfl) ?_
  show mj_Wg _ _ _ _ _ _ _ _ _ _ _ _ _ 9 7557 _ 77 (([some (.ref 91)], [.ref 100, .ref 91], MM 101 101 (fun _ _ => 0)) : mj_S)
  refine mj_run_ok (pe := 83) (S := _) (K := fun S' => S' = (([some (.ref 91)], [.int 80, .ref 91], MM 101 102 (fun _ _ => 0)) : mj_S)) F [.putfield 34, .aload_n 0, .bipush 80] ⟨mj_ade dX12_init 37 rfl, ⟨mj_ade dX12_init 38 rfl, ⟨mj_ade dX12_init 39 rfl, rfl⟩⟩⟩ (show (([some (.ref 91)], [.int 80, .ref 91], MM 101 102 (fun _ _ => 0)) : mj_S) = ([some (.ref 91)], [.int 80, .ref 91], MM 101 102 (fun _ _ => 0)) from rfl) (fun S' h => ?_)
  subst h
  refine mj_newa_ok (t := 0) (N := 80) F (by decide) (mj_ade dX12_init 40 rfl) mw_ar0 (by decide) (by decide) (by decide) (Nat.le_of_ble_eq_true rfl) (fun _ => rfl) (fun _ => rfl) (Nat.le_of_ble_eq_true rfl) (Nat.le_of_ble_eq_true rfl) ?_
  show mj_Wg _ _ _ _ _ _ _ _ _ _ _ _ _ 10 7637 _ 85 (([some (.ref 91)], [.ref 101, .ref 91], MM 102 102 (fun _ _ => 0)) : mj_S)
  refine mj_run_ok (pe := 91) (S := _) (K := fun S' => S' = (([some (.ref 91)], [.int 7, .ref 91], MM 102 103 (fun _ _ => 0)) : mj_S)) F [.putfield 37, .aload_n 0, .bipush 7] ⟨mj_ade dX12_init 41 rfl, ⟨mj_ade dX12_init 42 rfl, ⟨mj_ade dX12_init 43 rfl, rfl⟩⟩⟩ (show (([some (.ref 91)], [.int 7, .ref 91], MM 102 103 (fun _ _ => 0)) : mj_S) = ([some (.ref 91)], [.int 7, .ref 91], MM 102 103 (fun _ _ => 0)) from rfl) (fun S' h => ?_)
  subst h
  refine mj_newa_ok (t := 0) (N := 7) F (by decide) (mj_ade dX12_init 44 rfl) mw_ar0 (by decide) (by decide) (by decide) (Nat.le_of_ble_eq_true rfl) (fun _ => rfl) (fun _ => rfl) (Nat.le_of_ble_eq_true rfl) (Nat.le_of_ble_eq_true rfl) ?_
  show mj_Wg _ _ _ _ _ _ _ _ _ _ _ _ _ 11 7644 _ 93 (([some (.ref 91)], [.ref 102, .ref 91], MM 103 103 (fun _ _ => 0)) : mj_S)
  refine mj_run_ok (pe := 99) (S := _) (K := fun S' => S' = (([some (.ref 91)], [.int 48, .ref 91], MM 103 104 (fun _ _ => 0)) : mj_S)) F [.putfield 40, .aload_n 0, .bipush 48] ⟨mj_ade dX12_init 45 rfl, ⟨mj_ade dX12_init 46 rfl, ⟨mj_ade dX12_init 47 rfl, rfl⟩⟩⟩ (show (([some (.ref 91)], [.int 48, .ref 91], MM 103 104 (fun _ _ => 0)) : mj_S) = ([some (.ref 91)], [.int 48, .ref 91], MM 103 104 (fun _ _ => 0)) from rfl) (fun S' h => ?_)
  subst h
  refine mj_newa_ok (t := 0) (N := 48) F (by decide) (mj_ade dX12_init 48 rfl) mw_ar0 (by decide) (by decide) (by decide) (Nat.le_of_ble_eq_true rfl) (fun _ => rfl) (fun _ => rfl) (Nat.le_of_ble_eq_true rfl) (Nat.le_of_ble_eq_true rfl) ?_
  show mj_Wg _ _ _ _ _ _ _ _ _ _ _ _ _ 12 7692 _ 101 (([some (.ref 91)], [.ref 103, .ref 91], MM 104 104 (fun _ _ => 0)) : mj_S)
  refine mj_run_ok (pe := 107) (S := _) (K := fun S' => S' = (([some (.ref 91)], [.int 7, .ref 91], MM 104 105 (fun _ _ => 0)) : mj_S)) F [.putfield 43, .aload_n 0, .bipush 7] ⟨mj_ade dX12_init 49 rfl, ⟨mj_ade dX12_init 50 rfl, ⟨mj_ade dX12_init 51 rfl, rfl⟩⟩⟩ (show (([some (.ref 91)], [.int 7, .ref 91], MM 104 105 (fun _ _ => 0)) : mj_S) = ([some (.ref 91)], [.int 7, .ref 91], MM 104 105 (fun _ _ => 0)) from rfl) (fun S' h => ?_)
  subst h
  refine mj_newa_ok (t := 0) (N := 7) F (by decide) (mj_ade dX12_init 52 rfl) mw_ar0 (by decide) (by decide) (by decide) (Nat.le_of_ble_eq_true rfl) (fun _ => rfl) (fun _ => rfl) (Nat.le_of_ble_eq_true rfl) (Nat.le_of_ble_eq_true rfl) ?_
  show mj_Wg _ _ _ _ _ _ _ _ _ _ _ _ _ 13 7699 _ 109 (([some (.ref 91)], [.ref 104, .ref 91], MM 105 105 (fun _ _ => 0)) : mj_S)
  refine mj_run_ok (pe := 115) (S := _) (K := fun S' => S' = (([some (.ref 91)], [.int 48, .ref 91], MM 105 106 (fun _ _ => 0)) : mj_S)) F [.putfield 46, .aload_n 0, .bipush 48] ⟨mj_ade dX12_init 53 rfl, ⟨mj_ade dX12_init 54 rfl, ⟨mj_ade dX12_init 55 rfl, rfl⟩⟩⟩ (show (([some (.ref 91)], [.int 48, .ref 91], MM 105 106 (fun _ _ => 0)) : mj_S) = ([some (.ref 91)], [.int 48, .ref 91], MM 105 106 (fun _ _ => 0)) from rfl) (fun S' h => ?_)
  subst h
  refine mj_newa_ok (t := 0) (N := 48) F (by decide) (mj_ade dX12_init 56 rfl) mw_ar0 (by decide) (by decide) (by decide) (Nat.le_of_ble_eq_true rfl) (fun _ => rfl) (fun _ => rfl) (Nat.le_of_ble_eq_true rfl) (Nat.le_of_ble_eq_true rfl) ?_
  show mj_Wg _ _ _ _ _ _ _ _ _ _ _ _ _ 14 7747 _ 117 (([some (.ref 91)], [.ref 105, .ref 91], MM 106 106 (fun _ _ => 0)) : mj_S)
  refine mj_run_ok (pe := 123) (S := _) (K := fun S' => S' = (([some (.ref 91)], [.int 49, .ref 91], MM 106 107 (fun _ _ => 0)) : mj_S)) F [.putfield 49, .aload_n 0, .bipush 49] ⟨mj_ade dX12_init 57 rfl, ⟨mj_ade dX12_init 58 rfl, ⟨mj_ade dX12_init 59 rfl, rfl⟩⟩⟩ (show (([some (.ref 91)], [.int 49, .ref 91], MM 106 107 (fun _ _ => 0)) : mj_S) = ([some (.ref 91)], [.int 49, .ref 91], MM 106 107 (fun _ _ => 0)) from rfl) (fun S' h => ?_)
  subst h
  refine mj_newa_ok (t := 0) (N := 49) F (by decide) (mj_ade dX12_init 60 rfl) mw_ar0 (by decide) (by decide) (by decide) (Nat.le_of_ble_eq_true rfl) (fun _ => rfl) (fun _ => rfl) (Nat.le_of_ble_eq_true rfl) (Nat.le_of_ble_eq_true rfl) ?_
  show mj_Wg _ _ _ _ _ _ _ _ _ _ _ _ _ 15 7796 _ 125 (([some (.ref 91)], [.ref 106, .ref 91], MM 107 107 (fun _ _ => 0)) : mj_S)
  refine mj_run_ok (pe := 136) (S := _) (K := fun S' => S' = (([some (.ref 91)], [.int 8, .ref 91], MM 107 108 (mj_ui (fun _ _ => 0) 91 25 (-1))) : mj_S)) F [.putfield 52, .aload_n 0, .iconst (-1), .putfield 55, .aload_n 0, .bipush 8] ⟨mj_ade dX12_init 61 rfl, ⟨mj_ade dX12_init 62 rfl, ⟨mj_ade dX12_init 63 rfl, ⟨mj_ade dX12_init 64 rfl, ⟨mj_ade dX12_init 65 rfl, ⟨mj_ade dX12_init 66 rfl, rfl⟩⟩⟩⟩⟩⟩ (show (([some (.ref 91)], [.int 8, .ref 91], MM 107 108 (mj_ui (fun _ _ => 0) 91 25 (-1))) : mj_S) = ([some (.ref 91)], [.int 8, .ref 91], MM 107 108 (mj_ui (fun _ _ => 0) 91 25 (-1))) from rfl) (fun S' h => ?_)
  subst h
  refine mj_newa_ok (t := 1) (N := 8) F (by decide) (mj_ade dX12_init 67 rfl) mw_ar1 (by decide) (by decide) (by decide) (Nat.le_of_ble_eq_true rfl) (fun _ => rfl) (fun _ => rfl) (Nat.le_of_ble_eq_true rfl) (Nat.le_of_ble_eq_true rfl) ?_
  show mj_Wg _ _ _ _ _ _ _ _ _ _ _ _ _ 16 7804 _ 138 (([some (.ref 91)], [.ref 107, .ref 91], MM 108 108 (mj_ui (fun _ _ => 0) 91 25 (-1))) : mj_S)
  refine mj_run_ok (pe := 144) (S := _) (K := fun S' => S' = (([some (.ref 91)], [.int 8, .ref 91], MM 108 109 (mj_ui (fun _ _ => 0) 91 25 (-1))) : mj_S)) F [.putfield 59, .aload_n 0, .bipush 8] ⟨mj_ade dX12_init 68 rfl, ⟨mj_ade dX12_init 69 rfl, ⟨mj_ade dX12_init 70 rfl, rfl⟩⟩⟩ (show (([some (.ref 91)], [.int 8, .ref 91], MM 108 109 (mj_ui (fun _ _ => 0) 91 25 (-1))) : mj_S) = ([some (.ref 91)], [.int 8, .ref 91], MM 108 109 (mj_ui (fun _ _ => 0) 91 25 (-1))) from rfl) (fun S' h => ?_)
  subst h
  refine mj_newa_ok (t := 0) (N := 8) F (by decide) (mj_ade dX12_init 71 rfl) mw_ar0 (by decide) (by decide) (by decide) (Nat.le_of_ble_eq_true rfl) (fun _ => rfl) (fun _ => rfl) (Nat.le_of_ble_eq_true rfl) (Nat.le_of_ble_eq_true rfl) ?_
  show mj_Wg _ _ _ _ _ _ _ _ _ _ _ _ _ 17 7812 _ 146 (([some (.ref 91)], [.ref 108, .ref 91], MM 109 109 (mj_ui (fun _ _ => 0) 91 25 (-1))) : mj_S)
  refine mj_run_ok (pe := 152) (S := _) (K := fun S' => S' = (([some (.ref 91)], [.int 8, .ref 91], MM 109 110 (mj_ui (fun _ _ => 0) 91 25 (-1))) : mj_S)) F [.putfield 63, .aload_n 0, .bipush 8] ⟨mj_ade dX12_init 72 rfl, ⟨mj_ade dX12_init 73 rfl, ⟨mj_ade dX12_init 74 rfl, rfl⟩⟩⟩ (show (([some (.ref 91)], [.int 8, .ref 91], MM 109 110 (mj_ui (fun _ _ => 0) 91 25 (-1))) : mj_S) = ([some (.ref 91)], [.int 8, .ref 91], MM 109 110 (mj_ui (fun _ _ => 0) 91 25 (-1))) from rfl) (fun S' h => ?_)
  subst h
  refine mj_newa_ok (t := 0) (N := 8) F (by decide) (mj_ade dX12_init 75 rfl) mw_ar0 (by decide) (by decide) (by decide) (Nat.le_of_ble_eq_true rfl) (fun _ => rfl) (fun _ => rfl) (Nat.le_of_ble_eq_true rfl) (Nat.le_of_ble_eq_true rfl) ?_
  show mj_Wg _ _ _ _ _ _ _ _ _ _ _ _ _ 18 7820 _ 154 (([some (.ref 91)], [.ref 109, .ref 91], MM 110 110 (mj_ui (fun _ _ => 0) 91 25 (-1))) : mj_S)
  refine mj_run_ok (pe := 161) (S := _) (K := fun S' => S' = (([some (.ref 91)], [.int 1960, .ref 91], MM 110 111 (mj_ui (fun _ _ => 0) 91 25 (-1))) : mj_S)) F [.putfield 66, .aload_n 0, .sipush 1960] ⟨mj_ade dX12_init 76 rfl, ⟨mj_ade dX12_init 77 rfl, ⟨mj_ade dX12_init 78 rfl, rfl⟩⟩⟩ (show (([some (.ref 91)], [.int 1960, .ref 91], MM 110 111 (mj_ui (fun _ _ => 0) 91 25 (-1))) : mj_S) = ([some (.ref 91)], [.int 1960, .ref 91], MM 110 111 (mj_ui (fun _ _ => 0) 91 25 (-1))) from rfl) (fun S' h => ?_)
  subst h
  refine mj_newa_ok (t := 0) (N := 1960) F (by decide) (mj_ade dX12_init 79 rfl) mw_ar0 (by decide) (by decide) (by decide) (Nat.le_of_ble_eq_true rfl) (fun _ => rfl) (fun _ => rfl) (Nat.le_of_ble_eq_true rfl) (Nat.le_of_ble_eq_true rfl) ?_
  show mj_Wg _ _ _ _ _ _ _ _ _ _ _ _ _ 19 9780 _ 163 (([some (.ref 91)], [.ref 110, .ref 91], MM 111 111 (mj_ui (fun _ _ => 0) 91 25 (-1))) : mj_S)
  refine mj_run_ok (pe := 169) (S := _) (K := fun S' => S' = (([some (.ref 91)], [.int 49, .ref 91], MM 111 112 (mj_ui (fun _ _ => 0) 91 25 (-1))) : mj_S)) F [.putfield 69, .aload_n 0, .bipush 49] ⟨mj_ade dX12_init 80 rfl, ⟨mj_ade dX12_init 81 rfl, ⟨mj_ade dX12_init 82 rfl, rfl⟩⟩⟩ (show (([some (.ref 91)], [.int 49, .ref 91], MM 111 112 (mj_ui (fun _ _ => 0) 91 25 (-1))) : mj_S) = ([some (.ref 91)], [.int 49, .ref 91], MM 111 112 (mj_ui (fun _ _ => 0) 91 25 (-1))) from rfl) (fun S' h => ?_)
  subst h
  refine mj_newa_ok (t := 0) (N := 49) F (by decide) (mj_ade dX12_init 83 rfl) mw_ar0 (by decide) (by decide) (by decide) (Nat.le_of_ble_eq_true rfl) (fun _ => rfl) (fun _ => rfl) (Nat.le_of_ble_eq_true rfl) (Nat.le_of_ble_eq_true rfl) ?_
  show mj_Wg _ _ _ _ _ _ _ _ _ _ _ _ _ 20 9829 _ 171 (([some (.ref 91)], [.ref 111, .ref 91], MM 112 112 (mj_ui (fun _ _ => 0) 91 25 (-1))) : mj_S)
  refine mj_run_ok (pe := 177) (S := _) (K := fun S' => S' = (([some (.ref 91)], [.int 8, .ref 91], MM 112 113 (mj_ui (fun _ _ => 0) 91 25 (-1))) : mj_S)) F [.putfield 72, .aload_n 0, .bipush 8] ⟨mj_ade dX12_init 84 rfl, ⟨mj_ade dX12_init 85 rfl, ⟨mj_ade dX12_init 86 rfl, rfl⟩⟩⟩ (show (([some (.ref 91)], [.int 8, .ref 91], MM 112 113 (mj_ui (fun _ _ => 0) 91 25 (-1))) : mj_S) = ([some (.ref 91)], [.int 8, .ref 91], MM 112 113 (mj_ui (fun _ _ => 0) 91 25 (-1))) from rfl) (fun S' h => ?_)
  subst h
  refine mj_newa_ok (t := 0) (N := 8) F (by decide) (mj_ade dX12_init 87 rfl) mw_ar0 (by decide) (by decide) (by decide) (Nat.le_of_ble_eq_true rfl) (fun _ => rfl) (fun _ => rfl) (Nat.le_of_ble_eq_true rfl) (Nat.le_of_ble_eq_true rfl) ?_
  show mj_Wg _ _ _ _ _ _ _ _ _ _ _ _ _ 21 9837 _ 179 (([some (.ref 91)], [.ref 112, .ref 91], MM 113 113 (mj_ui (fun _ _ => 0) 91 25 (-1))) : mj_S)
  refine mj_run_ok (pe := 185) (S := _) (K := fun S' => S' = (([some (.ref 91)], [.int 7, .ref 91], MM 113 114 (mj_ui (fun _ _ => 0) 91 25 (-1))) : mj_S)) F [.putfield 75, .aload_n 0, .bipush 7] ⟨mj_ade dX12_init 88 rfl, ⟨mj_ade dX12_init 89 rfl, ⟨mj_ade dX12_init 90 rfl, rfl⟩⟩⟩ (show (([some (.ref 91)], [.int 7, .ref 91], MM 113 114 (mj_ui (fun _ _ => 0) 91 25 (-1))) : mj_S) = ([some (.ref 91)], [.int 7, .ref 91], MM 113 114 (mj_ui (fun _ _ => 0) 91 25 (-1))) from rfl) (fun S' h => ?_)
  subst h
  refine mj_newa_ok (t := 0) (N := 7) F (by decide) (mj_ade dX12_init 91 rfl) mw_ar0 (by decide) (by decide) (by decide) (Nat.le_of_ble_eq_true rfl) (fun _ => rfl) (fun _ => rfl) (Nat.le_of_ble_eq_true rfl) (Nat.le_of_ble_eq_true rfl) ?_
  show mj_Wg _ _ _ _ _ _ _ _ _ _ _ _ _ 22 9844 _ 187 (([some (.ref 91)], [.ref 113, .ref 91], MM 114 114 (mj_ui (fun _ _ => 0) 91 25 (-1))) : mj_S)
  refine mj_run_ok (pe := 193) (S := _) (K := fun S' => S' = (([some (.ref 91)], [.int 12, .ref 91], MM 114 115 (mj_ui (fun _ _ => 0) 91 25 (-1))) : mj_S)) F [.putfield 78, .aload_n 0, .bipush 12] ⟨mj_ade dX12_init 92 rfl, ⟨mj_ade dX12_init 93 rfl, ⟨mj_ade dX12_init 94 rfl, rfl⟩⟩⟩ (show (([some (.ref 91)], [.int 12, .ref 91], MM 114 115 (mj_ui (fun _ _ => 0) 91 25 (-1))) : mj_S) = ([some (.ref 91)], [.int 12, .ref 91], MM 114 115 (mj_ui (fun _ _ => 0) 91 25 (-1))) from rfl) (fun S' h => ?_)
  subst h
  refine mj_newa_ok (t := 0) (N := 12) F (by decide) (mj_ade dX12_init 95 rfl) mw_ar0 (by decide) (by decide) (by decide) (Nat.le_of_ble_eq_true rfl) (fun _ => rfl) (fun _ => rfl) (Nat.le_of_ble_eq_true rfl) (Nat.le_of_ble_eq_true rfl) ?_
  show mj_Wg _ _ _ _ _ _ _ _ _ _ _ _ _ 23 9856 _ 195 (([some (.ref 91)], [.ref 114, .ref 91], MM 115 115 (mj_ui (fun _ _ => 0) 91 25 (-1))) : mj_S)
  refine mj_run_ok (pe := 201) (S := _) (K := fun S' => S' = (([some (.ref 91)], [.int 12, .ref 91], MM 115 116 (mj_ui (fun _ _ => 0) 91 25 (-1))) : mj_S)) F [.putfield 81, .aload_n 0, .bipush 12] ⟨mj_ade dX12_init 96 rfl, ⟨mj_ade dX12_init 97 rfl, ⟨mj_ade dX12_init 98 rfl, rfl⟩⟩⟩ (show (([some (.ref 91)], [.int 12, .ref 91], MM 115 116 (mj_ui (fun _ _ => 0) 91 25 (-1))) : mj_S) = ([some (.ref 91)], [.int 12, .ref 91], MM 115 116 (mj_ui (fun _ _ => 0) 91 25 (-1))) from rfl) (fun S' h => ?_)
  subst h
  refine mj_newa_ok (t := 0) (N := 12) F (by decide) (mj_ade dX12_init 99 rfl) mw_ar0 (by decide) (by decide) (by decide) (Nat.le_of_ble_eq_true rfl) (fun _ => rfl) (fun _ => rfl) (Nat.le_of_ble_eq_true rfl) (Nat.le_of_ble_eq_true rfl) ?_
  show mj_Wg _ _ _ _ _ _ _ _ _ _ _ _ _ 24 9868 _ 203 (([some (.ref 91)], [.ref 115, .ref 91], MM 116 116 (mj_ui (fun _ _ => 0) 91 25 (-1))) : mj_S)
  refine mj_run_ok (pe := 209) (S := _) (K := fun S' => S' = (([some (.ref 91)], [.int 12, .ref 91], MM 116 117 (mj_ui (fun _ _ => 0) 91 25 (-1))) : mj_S)) F [.putfield 84, .aload_n 0, .bipush 12] ⟨mj_ade dX12_init 100 rfl, ⟨mj_ade dX12_init 101 rfl, ⟨mj_ade dX12_init 102 rfl, rfl⟩⟩⟩ (show (([some (.ref 91)], [.int 12, .ref 91], MM 116 117 (mj_ui (fun _ _ => 0) 91 25 (-1))) : mj_S) = ([some (.ref 91)], [.int 12, .ref 91], MM 116 117 (mj_ui (fun _ _ => 0) 91 25 (-1))) from rfl) (fun S' h => ?_)
  subst h
  refine mj_newa_ok (t := 0) (N := 12) F (by decide) (mj_ade dX12_init 103 rfl) mw_ar0 (by decide) (by decide) (by decide) (Nat.le_of_ble_eq_true rfl) (fun _ => rfl) (fun _ => rfl) (Nat.le_of_ble_eq_true rfl) (Nat.le_of_ble_eq_true rfl) ?_
  show mj_Wg _ _ _ _ _ _ _ _ _ _ _ _ _ 25 9880 _ 211 (([some (.ref 91)], [.ref 116, .ref 91], MM 117 117 (mj_ui (fun _ _ => 0) 91 25 (-1))) : mj_S)
  refine mj_run_ok (pe := 217) (S := _) (K := fun S' => S' = (([some (.ref 91)], [.int 12, .ref 91], MM 117 118 (mj_ui (fun _ _ => 0) 91 25 (-1))) : mj_S)) F [.putfield 87, .aload_n 0, .bipush 12] ⟨mj_ade dX12_init 104 rfl, ⟨mj_ade dX12_init 105 rfl, ⟨mj_ade dX12_init 106 rfl, rfl⟩⟩⟩ (show (([some (.ref 91)], [.int 12, .ref 91], MM 117 118 (mj_ui (fun _ _ => 0) 91 25 (-1))) : mj_S) = ([some (.ref 91)], [.int 12, .ref 91], MM 117 118 (mj_ui (fun _ _ => 0) 91 25 (-1))) from rfl) (fun S' h => ?_)
  subst h
  refine mj_newa_ok (t := 0) (N := 12) F (by decide) (mj_ade dX12_init 107 rfl) mw_ar0 (by decide) (by decide) (by decide) (Nat.le_of_ble_eq_true rfl) (fun _ => rfl) (fun _ => rfl) (Nat.le_of_ble_eq_true rfl) (Nat.le_of_ble_eq_true rfl) ?_
  show mj_Wg _ _ _ _ _ _ _ _ _ _ _ _ _ 26 9892 _ 219 (([some (.ref 91)], [.ref 117, .ref 91], MM 118 118 (mj_ui (fun _ _ => 0) 91 25 (-1))) : mj_S)
  refine mj_run_ok (pe := 226) (S := _) (K := fun S' => S' = (([some (.ref 91)], [.int 320, .ref 91], MM 118 119 (mj_ui (fun _ _ => 0) 91 25 (-1))) : mj_S)) F [.putfield 90, .aload_n 0, .sipush 320] ⟨mj_ade dX12_init 108 rfl, ⟨mj_ade dX12_init 109 rfl, ⟨mj_ade dX12_init 110 rfl, rfl⟩⟩⟩ (show (([some (.ref 91)], [.int 320, .ref 91], MM 118 119 (mj_ui (fun _ _ => 0) 91 25 (-1))) : mj_S) = ([some (.ref 91)], [.int 320, .ref 91], MM 118 119 (mj_ui (fun _ _ => 0) 91 25 (-1))) from rfl) (fun S' h => ?_)
  subst h
  refine mj_newa_ok (t := 0) (N := 320) F (by decide) (mj_ade dX12_init 111 rfl) mw_ar0 (by decide) (by decide) (by decide) (Nat.le_of_ble_eq_true rfl) (fun _ => rfl) (fun _ => rfl) (Nat.le_of_ble_eq_true rfl) (Nat.le_of_ble_eq_true rfl) ?_
  show mj_Wg _ _ _ _ _ _ _ _ _ _ _ _ _ 27 10212 _ 228 (([some (.ref 91)], [.ref 118, .ref 91], MM 119 119 (mj_ui (fun _ _ => 0) 91 25 (-1))) : mj_S)
  refine mj_run_ok (pe := 234) (S := _) (K := fun S' => S' = (([some (.ref 91)], [.int 49, .ref 91], MM 119 120 (mj_ui (fun _ _ => 0) 91 25 (-1))) : mj_S)) F [.putfield 93, .aload_n 0, .bipush 49] ⟨mj_ade dX12_init 112 rfl, ⟨mj_ade dX12_init 113 rfl, ⟨mj_ade dX12_init 114 rfl, rfl⟩⟩⟩ (show (([some (.ref 91)], [.int 49, .ref 91], MM 119 120 (mj_ui (fun _ _ => 0) 91 25 (-1))) : mj_S) = ([some (.ref 91)], [.int 49, .ref 91], MM 119 120 (mj_ui (fun _ _ => 0) 91 25 (-1))) from rfl) (fun S' h => ?_)
  subst h
  refine mj_newa_ok (t := 0) (N := 49) F (by decide) (mj_ade dX12_init 115 rfl) mw_ar0 (by decide) (by decide) (by decide) (Nat.le_of_ble_eq_true rfl) (fun _ => rfl) (fun _ => rfl) (Nat.le_of_ble_eq_true rfl) (Nat.le_of_ble_eq_true rfl) ?_
  show mj_Wg _ _ _ _ _ _ _ _ _ _ _ _ _ 28 10261 _ 236 (([some (.ref 91)], [.ref 119, .ref 91], MM 120 120 (mj_ui (fun _ _ => 0) 91 25 (-1))) : mj_S)
  refine mj_run_ok (pe := 239) (S := _) (K := fun S' => S' = (([some (.ref 91)], [], MM 120 121 (mj_ui (fun _ _ => 0) 91 25 (-1))) : mj_S)) F [.putfield 96] ⟨mj_ade dX12_init 116 rfl, rfl⟩ (show (([some (.ref 91)], [], MM 120 121 (mj_ui (fun _ _ => 0) 91 25 (-1))) : mj_S) = ([some (.ref 91)], [], MM 120 121 (mj_ui (fun _ _ => 0) 91 25 (-1))) from rfl) (fun S' h => ?_)
  subst h
  exact mj_ret_ok F (mj_ade dX12_init 117 rfl) ⟨rfl, rfl⟩
end
section
/-! ===== Math: by the kit's own rows ===== -/
def mj_ptmx : mj_PT := fun as M Φ => match as with
  | [.int x, .int y] => Φ (some (.int (if x < y then y else x))) M
  | _ => False
set_option maxRecDepth 100000 in
theorem mj_wmx : mj_gw (Cond.static Lib.Math.max.name) = true ∧ mj_gw (Cond.code Lib.Math.max.name Lib.Math.max.code 2 (some .int)) = true ∧ mj_gw (Cond.initialized "java/lang/Math") = true := by decide +kernel
theorem mj_cmx {Ω : mj_Om} {l : Launch} {μ : mj_m} {d k : Nat} (hd : 1 ≤ d) (hlk : Cond.methodLink (mj_own.getD μ.1 "") k Lib.Math.max.name ∈ mj_GW) : mj_Call Ω l false μ d k 1 2 mj_ptmx := by
  intro p e s m args below meth c Q R k0 n0 pc L as rest M Φ F hRR hdg hlen hW hpt hk H locs ls hH hl
  obtain ⟨hx, hb, hml, hown, hts, hr, hlk2, hK, hin, hbs, hKc⟩ := F
  have hrm : ((rest.map (mj_v Ω)).map fun v => v.category).sum + 13 ≤ R.locals := by
    have : ((rest.map (mj_v Ω)).map fun v => v.category) = rest.map (fun v => v.category) := by rw [List.map_map]; exact List.map_congr_left (fun v _ => mj_v_cat Ω v)
    rw [this]
    omega
  simp only [mj_ptmx] at hpt
  split at hpt
  · exact va_mmax hx hb (by rw [hml]; exact hl.1.symm) hown (hts _ hlk) (hts _ (mj_gw_in mj_wmx.1)) (hts _ (mj_gw_in mj_wmx.2.2)) (hts _ (mj_gw_in mj_wmx.2.1)) (by omega) hrm hRR.2.2.1 hRR.2.2.2 hdg (hk _ _ hpt H locs ls hH hl)
  · exact hpt.elim
theorem mj_Csmx {μ : mj_m} {D k : Nat} {cs : List (Nat × Nat × Nat × mj_PT)} (hD : 1 ≤ D) (hlk : Cond.methodLink (mj_own.getD μ.1 "") k Lib.Math.max.name ∈ mj_GW) (ht : mj_Cs μ D cs) : mj_Cs μ D ((k, 1, 2, mj_ptmx) :: cs) := by
  intro Ω l d hd q' hq'
  rcases List.mem_cons.mp hq' with rfl | hq'
  · exact mj_cmx (by omega) hlk
  · exact ht Ω l d hd q' hq'
def mj_ptmn : mj_PT := fun as M Φ => match as with
  | [.int x, .int y] => Φ (some (.int (if y < x then y else x))) M
  | _ => False
set_option maxRecDepth 100000 in
theorem mj_wmn : mj_gw (Cond.static Lib.Math.min.name) = true ∧ mj_gw (Cond.code Lib.Math.min.name Lib.Math.min.code 2 (some .int)) = true ∧ mj_gw (Cond.initialized "java/lang/Math") = true := by decide +kernel
theorem mj_cmn {Ω : mj_Om} {l : Launch} {μ : mj_m} {d k : Nat} (hd : 1 ≤ d) (hlk : Cond.methodLink (mj_own.getD μ.1 "") k Lib.Math.min.name ∈ mj_GW) : mj_Call Ω l false μ d k 1 2 mj_ptmn := by
  intro p e s m args below meth c Q R k0 n0 pc L as rest M Φ F hRR hdg hlen hW hpt hk H locs ls hH hl
  obtain ⟨hx, hb, hml, hown, hts, hr, hlk2, hK, hin, hbs, hKc⟩ := F
  have hrm : ((rest.map (mj_v Ω)).map fun v => v.category).sum + 13 ≤ R.locals := by
    have : ((rest.map (mj_v Ω)).map fun v => v.category) = rest.map (fun v => v.category) := by rw [List.map_map]; exact List.map_congr_left (fun v _ => mj_v_cat Ω v)
    rw [this]
    omega
  simp only [mj_ptmn] at hpt
  split at hpt
  · exact va_mmin hx hb (by rw [hml]; exact hl.1.symm) hown (hts _ hlk) (hts _ (mj_gw_in mj_wmn.1)) (hts _ (mj_gw_in mj_wmn.2.2)) (hts _ (mj_gw_in mj_wmn.2.1)) (by omega) hrm hRR.2.2.1 hRR.2.2.2 hdg (hk _ _ hpt H locs ls hH hl)
  · exact hpt.elim
theorem mj_Csmn {μ : mj_m} {D k : Nat} {cs : List (Nat × Nat × Nat × mj_PT)} (hD : 1 ≤ D) (hlk : Cond.methodLink (mj_own.getD μ.1 "") k Lib.Math.min.name ∈ mj_GW) (ht : mj_Cs μ D cs) : mj_Cs μ D ((k, 1, 2, mj_ptmn) :: cs) := by
  intro Ω l d hd q' hq'
  rcases List.mem_cons.mp hq' with rfl | hq'
  · exact mj_cmn (by omega) hlk
  · exact ht Ω l d hd q' hq'
def mj_ptab : mj_PT := fun as M Φ => match as with
  | [.int x] => Φ (some (.int (if 0 ≤ x then x else 0 - x))) M
  | _ => False
set_option maxRecDepth 100000 in
theorem mj_wab : mj_gw (Cond.static Lib.Math.abs.name) = true ∧ mj_gw (Cond.code Lib.Math.abs.name Lib.Math.abs.code 1 (some .int)) = true ∧ mj_gw (Cond.initialized "java/lang/Math") = true := by decide +kernel
theorem mj_cab {Ω : mj_Om} {l : Launch} {μ : mj_m} {d k : Nat} (hd : 1 ≤ d) (hlk : Cond.methodLink (mj_own.getD μ.1 "") k Lib.Math.abs.name ∈ mj_GW) : mj_Call Ω l false μ d k 1 1 mj_ptab := by
  intro p e s m args below meth c Q R k0 n0 pc L as rest M Φ F hRR hdg hlen hW hpt hk H locs ls hH hl
  obtain ⟨hx, hb, hml, hown, hts, hr, hlk2, hK, hin, hbs, hKc⟩ := F
  have hrm : ((rest.map (mj_v Ω)).map fun v => v.category).sum + 13 ≤ R.locals := by
    have : ((rest.map (mj_v Ω)).map fun v => v.category) = rest.map (fun v => v.category) := by rw [List.map_map]; exact List.map_congr_left (fun v _ => mj_v_cat Ω v)
    rw [this]
    omega
  simp only [mj_ptab] at hpt
  split at hpt
  · exact va_mabs hx hb (by rw [hml]; exact hl.1.symm) hown (hts _ hlk) (hts _ (mj_gw_in mj_wab.1)) (hts _ (mj_gw_in mj_wab.2.2)) (hts _ (mj_gw_in mj_wab.2.1)) (by omega) hrm hRR.2.2.1 hRR.2.2.2 hdg (hk _ _ hpt H locs ls hH hl)
  · exact hpt.elim
theorem mj_Csab {μ : mj_m} {D k : Nat} {cs : List (Nat × Nat × Nat × mj_PT)} (hD : 1 ≤ D) (hlk : Cond.methodLink (mj_own.getD μ.1 "") k Lib.Math.abs.name ∈ mj_GW) (ht : mj_Cs μ D cs) : mj_Cs μ D ((k, 1, 1, mj_ptab) :: cs) := by
  intro Ω l d hd q' hq'
  rcases List.mem_cons.mp hq' with rfl | hq'
  · exact mj_cab (by omega) hlk
  · exact ht Ω l d hd q' hq'
def mj_ptmxl : mj_PT := fun as M Φ => match as with
  | [.long x, .long y] => Φ (some (.long (if y < x then x else y))) M
  | _ => False
set_option maxRecDepth 100000 in
theorem mj_wmxl : mj_gw (Cond.static Lib.MathLoose.max_long.x) = true ∧ mj_gw (Cond.code Lib.MathLoose.max_long.x Lib.MathLoose.max_long.code 4 (some .long)) = true ∧ mj_gw (Cond.initialized "java/lang/Math") = true := by decide +kernel
theorem mj_cmxl {Ω : mj_Om} {l : Launch} {μ : mj_m} {d k : Nat} (hd : 1 ≤ d) (hlk : Cond.methodLink (mj_own.getD μ.1 "") k Lib.MathLoose.max_long.x ∈ mj_GW) : mj_Call Ω l false μ d k 1 2 mj_ptmxl := by
  intro p e s m args below meth c Q R k0 n0 pc L as rest M Φ F hRR hdg hlen hW hpt hk H locs ls hH hl
  obtain ⟨hx, hb, hml, hown, hts, hr, hlk2, hK, hin, hbs, hKc⟩ := F
  have hrm : ((rest.map (mj_v Ω)).map fun v => v.category).sum + 15 ≤ R.locals := by
    have : ((rest.map (mj_v Ω)).map fun v => v.category) = rest.map (fun v => v.category) := by rw [List.map_map]; exact List.map_congr_left (fun v _ => mj_v_cat Ω v)
    rw [this]
    omega
  simp only [mj_ptmxl] at hpt
  split at hpt
  · exact va_mmax_long hx hb (by rw [hml]; exact hl.1.symm) hown (hts _ hlk) (hts _ (mj_gw_in mj_wmxl.1)) (hts _ (mj_gw_in mj_wmxl.2.2)) (hts _ (mj_gw_in mj_wmxl.2.1)) (by omega) hrm hRR.2.2.1 hRR.2.2.2 hdg (hk _ _ hpt H locs ls hH hl)
  · exact hpt.elim
theorem mj_Csmxl {μ : mj_m} {D k : Nat} {cs : List (Nat × Nat × Nat × mj_PT)} (hD : 1 ≤ D) (hlk : Cond.methodLink (mj_own.getD μ.1 "") k Lib.MathLoose.max_long.x ∈ mj_GW) (ht : mj_Cs μ D cs) : mj_Cs μ D ((k, 1, 2, mj_ptmxl) :: cs) := by
  intro Ω l d hd q' hq'
  rcases List.mem_cons.mp hq' with rfl | hq'
  · exact mj_cmxl (by omega) hlk
  · exact ht Ω l d hd q' hq'
def mj_ptmnl : mj_PT := fun as M Φ => match as with
  | [.long x, .long y] => Φ (some (.long (if y < x then y else x))) M
  | _ => False
set_option maxRecDepth 100000 in
theorem mj_wmnl : mj_gw (Cond.static Lib.MathLoose.min_long.x) = true ∧ mj_gw (Cond.code Lib.MathLoose.min_long.x Lib.MathLoose.min_long.code 4 (some .long)) = true ∧ mj_gw (Cond.initialized "java/lang/Math") = true := by decide +kernel
theorem mj_cmnl {Ω : mj_Om} {l : Launch} {μ : mj_m} {d k : Nat} (hd : 1 ≤ d) (hlk : Cond.methodLink (mj_own.getD μ.1 "") k Lib.MathLoose.min_long.x ∈ mj_GW) : mj_Call Ω l false μ d k 1 2 mj_ptmnl := by
  intro p e s m args below meth c Q R k0 n0 pc L as rest M Φ F hRR hdg hlen hW hpt hk H locs ls hH hl
  obtain ⟨hx, hb, hml, hown, hts, hr, hlk2, hK, hin, hbs, hKc⟩ := F
  have hrm : ((rest.map (mj_v Ω)).map fun v => v.category).sum + 15 ≤ R.locals := by
    have : ((rest.map (mj_v Ω)).map fun v => v.category) = rest.map (fun v => v.category) := by rw [List.map_map]; exact List.map_congr_left (fun v _ => mj_v_cat Ω v)
    rw [this]
    omega
  simp only [mj_ptmnl] at hpt
  split at hpt
  · exact va_mmin_long hx hb (by rw [hml]; exact hl.1.symm) hown (hts _ hlk) (hts _ (mj_gw_in mj_wmnl.1)) (hts _ (mj_gw_in mj_wmnl.2.2)) (hts _ (mj_gw_in mj_wmnl.2.1)) (by omega) hrm hRR.2.2.1 hRR.2.2.2 hdg (hk _ _ hpt H locs ls hH hl)
  · exact hpt.elim
theorem mj_Csmnl {μ : mj_m} {D k : Nat} {cs : List (Nat × Nat × Nat × mj_PT)} (hD : 1 ≤ D) (hlk : Cond.methodLink (mj_own.getD μ.1 "") k Lib.MathLoose.min_long.x ∈ mj_GW) (ht : mj_Cs μ D cs) : mj_Cs μ D ((k, 1, 2, mj_ptmnl) :: cs) := by
  intro Ω l d hd q' hq'
  rcases List.mem_cons.mp hq' with rfl | hq'
  · exact mj_cmnl (by omega) hlk
  · exact ht Ω l d hd q' hq'
end
section
/-! ===== loop-free methods over loop-free ones (by program, wip/whole/gen_leaf.py) ===== -/
def csX0_forget : List (Nat × Nat × Nat × mj_PT) := []
theorem csX0_forget_ok : mj_Cs mX0_forget 1 csX0_forget := mj_Cs0
def tX0_forget : mj_PT := mj_ptw mX0_forget pX0_forget csX0_forget 5
theorem sdX0_forget : mj_Sd mX0_forget 1 tX0_forget := mj_ptw_sd dX0_forget ⟨by decide, rfl, fun h => (by cases h)⟩ csX0_forget_ok
def csX1_copyFrom : List (Nat × Nat × Nat × mj_PT) := [(13, 1, 5, mj_ptcp)]
theorem csX1_copyFrom_ok : mj_Cs mX1_copyFrom 2 csX1_copyFrom := (mj_CsCp (Nat.le_of_ble_eq_true rfl) (mj_gw_in (by decide +kernel)) mj_Cs0)
def tX1_copyFrom : mj_PT := mj_ptw mX1_copyFrom pX1_copyFrom csX1_copyFrom 10
theorem sdX1_copyFrom : mj_Sd mX1_copyFrom 2 tX1_copyFrom := mj_ptw_sd dX1_copyFrom ⟨by decide, rfl, fun h => (by cases h)⟩ csX1_copyFrom_ok
def csX1_hasColumn : List (Nat × Nat × Nat × mj_PT) := []
theorem csX1_hasColumn_ok : mj_Cs mX1_hasColumn 1 csX1_hasColumn := mj_Cs0
def tX1_hasColumn : mj_PT := mj_ptw mX1_hasColumn pX1_hasColumn csX1_hasColumn 13
theorem sdX1_hasColumn : mj_Sd mX1_hasColumn 1 tX1_hasColumn := mj_ptw_sd dX1_hasColumn ⟨by decide, rfl, fun h => (by cases h)⟩ csX1_hasColumn_ok
def csX1_thirdOf : List (Nat × Nat × Nat × mj_PT) := []
theorem csX1_thirdOf_ok : mj_Cs mX1_thirdOf 1 csX1_thirdOf := mj_Cs0
def tX1_thirdOf : mj_PT := mj_ptw mX1_thirdOf pX1_thirdOf csX1_thirdOf 18
theorem sdX1_thirdOf : mj_Sd mX1_thirdOf 1 tX1_thirdOf := mj_ptw_sd dX1_thirdOf ⟨by decide, rfl, fun h => (by cases h)⟩ csX1_thirdOf_ok
def csX1_secondsLeft : List (Nat × Nat × Nat × mj_PT) := []
theorem csX1_secondsLeft_ok : mj_Cs mX1_secondsLeft 1 csX1_secondsLeft := mj_Cs0
def tX1_secondsLeft : mj_PT := mj_ptw mX1_secondsLeft pX1_secondsLeft csX1_secondsLeft 9
theorem sdX1_secondsLeft : mj_Sd mX1_secondsLeft 1 tX1_secondsLeft := mj_ptw_sd dX1_secondsLeft ⟨by decide, rfl, fun h => (by cases h)⟩ csX1_secondsLeft_ok
def csX2_begin : List (Nat × Nat × Nat × mj_PT) := []
theorem csX2_begin_ok : mj_Cs mX2_begin 1 csX2_begin := mj_Cs0
def tX2_begin : mj_PT := mj_ptw mX2_begin pX2_begin csX2_begin 5
theorem sdX2_begin : mj_Sd mX2_begin 1 tX2_begin := mj_ptw_sd dX2_begin ⟨by decide, rfl, fun h => (by cases h)⟩ csX2_begin_ok
def csX2_next : List (Nat × Nat × Nat × mj_PT) := []
theorem csX2_next_ok : mj_Cs mX2_next 1 csX2_next := mj_Cs0
def tX2_next : mj_PT := mj_ptw mX2_next pX2_next csX2_next 23
theorem sdX2_next : mj_Sd mX2_next 1 tX2_next := mj_ptw_sd dX2_next ⟨by decide, rfl, fun h => (by cases h)⟩ csX2_next_ok
def csX3_empty : List (Nat × Nat × Nat × mj_PT) := []
theorem csX3_empty_ok : mj_Cs mX3_empty 1 csX3_empty := mj_Cs0
def tX3_empty : mj_PT := mj_ptw mX3_empty pX3_empty csX3_empty 8
theorem sdX3_empty : mj_Sd mX3_empty 1 tX3_empty := mj_ptw_sd dX3_empty ⟨by decide, rfl, fun h => (by cases h)⟩ csX3_empty_ok
def csX3_join : List (Nat × Nat × Nat × mj_PT) := []
theorem csX3_join_ok : mj_Cs mX3_join 1 csX3_join := mj_Cs0
def tX3_join : mj_PT := mj_ptw mX3_join pX3_join csX3_join 84
theorem sdX3_join : mj_Sd mX3_join 1 tX3_join := mj_ptw_sd dX3_join ⟨by decide, rfl, fun h => (by cases h)⟩ csX3_join_ok
def csX3_joinDuel : List (Nat × Nat × Nat × mj_PT) := []
theorem csX3_joinDuel_ok : mj_Cs mX3_joinDuel 1 csX3_joinDuel := mj_Cs0
def tX3_joinDuel : mj_PT := mj_ptw mX3_joinDuel pX3_joinDuel csX3_joinDuel 47
theorem sdX3_joinDuel : mj_Sd mX3_joinDuel 1 tX3_joinDuel := mj_ptw_sd dX3_joinDuel ⟨by decide, rfl, fun h => (by cases h)⟩ csX3_joinDuel_ok
def csX3_isBeside : List (Nat × Nat × Nat × mj_PT) := []
theorem csX3_isBeside_ok : mj_Cs mX3_isBeside 1 csX3_isBeside := mj_Cs0
def tX3_isBeside : mj_PT := mj_ptw mX3_isBeside pX3_isBeside csX3_isBeside 21
theorem sdX3_isBeside : mj_Sd mX3_isBeside 1 tX3_isBeside := mj_ptw_sd dX3_isBeside ⟨by decide, rfl, fun h => (by cases h)⟩ csX3_isBeside_ok
def csX3_speedUp : List (Nat × Nat × Nat × mj_PT) := []
theorem csX3_speedUp_ok : mj_Cs mX3_speedUp 1 csX3_speedUp := mj_Cs0
def tX3_speedUp : mj_PT := mj_ptw mX3_speedUp pX3_speedUp csX3_speedUp 19
theorem sdX3_speedUp : mj_Sd mX3_speedUp 1 tX3_speedUp := mj_ptw_sd dX3_speedUp ⟨by decide, rfl, fun h => (by cases h)⟩ csX3_speedUp_ok
def csX3_slowDown : List (Nat × Nat × Nat × mj_PT) := []
theorem csX3_slowDown_ok : mj_Cs mX3_slowDown 1 csX3_slowDown := mj_Cs0
def tX3_slowDown : mj_PT := mj_ptw mX3_slowDown pX3_slowDown csX3_slowDown 15
theorem sdX3_slowDown : mj_Sd mX3_slowDown 1 tX3_slowDown := mj_ptw_sd dX3_slowDown ⟨by decide, rfl, fun h => (by cases h)⟩ csX3_slowDown_ok
def csX4_comesNow : List (Nat × Nat × Nat × mj_PT) := []
theorem csX4_comesNow_ok : mj_Cs mX4_comesNow 1 csX4_comesNow := mj_Cs0
def tX4_comesNow : mj_PT := mj_ptw mX4_comesNow pX4_comesNow csX4_comesNow 11
theorem sdX4_comesNow : mj_Sd mX4_comesNow 1 tX4_comesNow := mj_ptw_sd dX4_comesNow ⟨by decide, rfl, fun h => (by cases h)⟩ csX4_comesNow_ok
def csX5_canSee : List (Nat × Nat × Nat × mj_PT) := []
theorem csX5_canSee_ok : mj_Cs mX5_canSee 1 csX5_canSee := mj_Cs0
def tX5_canSee : mj_PT := mj_ptw mX5_canSee pX5_canSee csX5_canSee 18
theorem sdX5_canSee : mj_Sd mX5_canSee 1 tX5_canSee := mj_ptw_sd dX5_canSee ⟨by decide, rfl, fun h => (by cases h)⟩ csX5_canSee_ok
def csX5_addPicture : List (Nat × Nat × Nat × mj_PT) := []
theorem csX5_addPicture_ok : mj_Cs mX5_addPicture 1 csX5_addPicture := mj_Cs0
def tX5_addPicture : mj_PT := mj_ptw mX5_addPicture pX5_addPicture csX5_addPicture 50
theorem sdX5_addPicture : mj_Sd mX5_addPicture 1 tX5_addPicture := mj_ptw_sd dX5_addPicture ⟨by decide, rfl, fun h => (by cases h)⟩ csX5_addPicture_ok
def csX5_isSeen : List (Nat × Nat × Nat × mj_PT) := []
theorem csX5_isSeen_ok : mj_Cs mX5_isSeen 1 csX5_isSeen := mj_Cs0
def tX5_isSeen : mj_PT := mj_ptw mX5_isSeen pX5_isSeen csX5_isSeen 54
theorem sdX5_isSeen : mj_Sd mX5_isSeen 1 tX5_isSeen := mj_ptw_sd dX5_isSeen ⟨by decide, rfl, fun h => (by cases h)⟩ csX5_isSeen_ok
def csX6_has : List (Nat × Nat × Nat × mj_PT) := []
theorem csX6_has_ok : mj_Cs mX6_has 1 csX6_has := mj_Cs0
def tX6_has : mj_PT := mj_ptw mX6_has pX6_has csX6_has 11
theorem sdX6_has : mj_Sd mX6_has 1 tX6_has := mj_ptw_sd dX6_has ⟨by decide, rfl, fun h => (by cases h)⟩ csX6_has_ok
def csX6_letterAt : List (Nat × Nat × Nat × mj_PT) := []
theorem csX6_letterAt_ok : mj_Cs mX6_letterAt 1 csX6_letterAt := mj_Cs0
def tX6_letterAt : mj_PT := mj_ptw mX6_letterAt pX6_letterAt csX6_letterAt 13
theorem sdX6_letterAt : mj_Sd mX6_letterAt 1 tX6_letterAt := mj_ptw_sd dX6_letterAt ⟨by decide, rfl, fun h => (by cases h)⟩ csX6_letterAt_ok
def csX7_emit : List (Nat × Nat × Nat × mj_PT) := []
theorem csX7_emit_ok : mj_Cs mX7_emit 1 csX7_emit := mj_Cs0
def tX7_emit : mj_PT := mj_ptw mX7_emit pX7_emit csX7_emit 20
theorem sdX7_emit : mj_Sd mX7_emit 1 tX7_emit := mj_ptw_sd dX7_emit ⟨by decide, rfl, fun h => (by cases h)⟩ csX7_emit_ok
def csX8_rewind : List (Nat × Nat × Nat × mj_PT) := []
theorem csX8_rewind_ok : mj_Cs mX8_rewind 1 csX8_rewind := mj_Cs0
def tX8_rewind : mj_PT := mj_ptw mX8_rewind pX8_rewind csX8_rewind 5
theorem sdX8_rewind : mj_Sd mX8_rewind 1 tX8_rewind := mj_ptw_sd dX8_rewind ⟨by decide, rfl, fun h => (by cases h)⟩ csX8_rewind_ok
def csX8_rawSign : List (Nat × Nat × Nat × mj_PT) := []
theorem csX8_rawSign_ok : mj_Cs mX8_rawSign 1 csX8_rawSign := mj_Cs0
def tX8_rawSign : mj_PT := mj_ptw mX8_rawSign pX8_rawSign csX8_rawSign 21
theorem sdX8_rawSign : mj_Sd mX8_rawSign 1 tX8_rawSign := mj_ptw_sd dX8_rawSign ⟨by decide, rfl, fun h => (by cases h)⟩ csX8_rawSign_ok
def csX8_isDigit : List (Nat × Nat × Nat × mj_PT) := []
theorem csX8_isDigit_ok : mj_Cs mX8_isDigit 1 csX8_isDigit := mj_Cs0
def tX8_isDigit : mj_PT := mj_ptw mX8_isDigit pX8_isDigit csX8_isDigit 11
theorem sdX8_isDigit : mj_Sd mX8_isDigit 1 tX8_isDigit := mj_ptw_sd dX8_isDigit ⟨by decide, rfl, fun h => (by cases h)⟩ csX8_isDigit_ok
def csX11_end : List (Nat × Nat × Nat × mj_PT) := []
theorem csX11_end_ok : mj_Cs mX11_end 1 csX11_end := mj_Cs0
def tX11_end : mj_PT := mj_ptw mX11_end pX11_end csX11_end 16
theorem sdX11_end : mj_Sd mX11_end 1 tX11_end := mj_ptw_sd dX11_end ⟨by decide, rfl, fun h => (by cases h)⟩ csX11_end_ok
def csX11_gust : List (Nat × Nat × Nat × mj_PT) := []
theorem csX11_gust_ok : mj_Cs mX11_gust 1 csX11_gust := mj_Cs0
def tX11_gust : mj_PT := mj_ptw mX11_gust pX11_gust csX11_gust 17
theorem sdX11_gust : mj_Sd mX11_gust 1 tX11_gust := mj_ptw_sd dX11_gust ⟨by decide, rfl, fun h => (by cases h)⟩ csX11_gust_ok
def csX11_count : List (Nat × Nat × Nat × mj_PT) := []
theorem csX11_count_ok : mj_Cs mX11_count 1 csX11_count := mj_Cs0
def tX11_count : mj_PT := mj_ptw mX11_count pX11_count csX11_count 36
theorem sdX11_count : mj_Sd mX11_count 1 tX11_count := mj_ptw_sd dX11_count ⟨by decide, rfl, fun h => (by cases h)⟩ csX11_count_ok
def csX11_hasWater : List (Nat × Nat × Nat × mj_PT) := []
theorem csX11_hasWater_ok : mj_Cs mX11_hasWater 1 csX11_hasWater := mj_Cs0
def tX11_hasWater : mj_PT := mj_ptw mX11_hasWater pX11_hasWater csX11_hasWater 9
theorem sdX11_hasWater : mj_Sd mX11_hasWater 1 tX11_hasWater := mj_ptw_sd dX11_hasWater ⟨by decide, rfl, fun h => (by cases h)⟩ csX11_hasWater_ok
def csX11_isBoat : List (Nat × Nat × Nat × mj_PT) := []
theorem csX11_isBoat_ok : mj_Cs mX11_isBoat 1 csX11_isBoat := mj_Cs0
def tX11_isBoat : mj_PT := mj_ptw mX11_isBoat pX11_isBoat csX11_isBoat 12
theorem sdX11_isBoat : mj_Sd mX11_isBoat 1 tX11_isBoat := mj_ptw_sd dX11_isBoat ⟨by decide, rfl, fun h => (by cases h)⟩ csX11_isBoat_ok
def csX11_isChoice : List (Nat × Nat × Nat × mj_PT) := []
theorem csX11_isChoice_ok : mj_Cs mX11_isChoice 1 csX11_isChoice := mj_Cs0
def tX11_isChoice : mj_PT := mj_ptw mX11_isChoice pX11_isChoice csX11_isChoice 10
theorem sdX11_isChoice : mj_Sd mX11_isChoice 1 tX11_isChoice := mj_ptw_sd dX11_isChoice ⟨by decide, rfl, fun h => (by cases h)⟩ csX11_isChoice_ok
def csX12_in : List (Nat × Nat × Nat × mj_PT) := []
theorem csX12_in_ok : mj_Cs mX12_in 1 csX12_in := mj_Cs0
def tX12_in : mj_PT := mj_ptw mX12_in pX12_in csX12_in 11
theorem sdX12_in : mj_Sd mX12_in 1 tX12_in := mj_ptw_sd dX12_in ⟨by decide, rfl, fun h => (by cases h)⟩ csX12_in_ok
def csX12_has : List (Nat × Nat × Nat × mj_PT) := []
theorem csX12_has_ok : mj_Cs mX12_has 1 csX12_has := mj_Cs0
def tX12_has : mj_PT := mj_ptw mX12_has pX12_has csX12_has 12
theorem sdX12_has : mj_Sd mX12_has 1 tX12_has := mj_ptw_sd dX12_has ⟨by decide, rfl, fun h => (by cases h)⟩ csX12_has_ok
def csX12_thrown : List (Nat × Nat × Nat × mj_PT) := []
theorem csX12_thrown_ok : mj_Cs mX12_thrown 1 csX12_thrown := mj_Cs0
def tX12_thrown : mj_PT := mj_ptw mX12_thrown pX12_thrown csX12_thrown 4
theorem sdX12_thrown : mj_Sd mX12_thrown 1 tX12_thrown := mj_ptw_sd dX12_thrown ⟨by decide, rfl, fun h => (by cases h)⟩ csX12_thrown_ok
def csX12_end : List (Nat × Nat × Nat × mj_PT) := []
theorem csX12_end_ok : mj_Cs mX12_end 1 csX12_end := mj_Cs0
def tX12_end : mj_PT := mj_ptw mX12_end pX12_end csX12_end 14
theorem sdX12_end : mj_Sd mX12_end 1 tX12_end := mj_ptw_sd dX12_end ⟨by decide, rfl, fun h => (by cases h)⟩ csX12_end_ok
def csX12_here : List (Nat × Nat × Nat × mj_PT) := []
theorem csX12_here_ok : mj_Cs mX12_here 1 csX12_here := mj_Cs0
def tX12_here : mj_PT := mj_ptw mX12_here pX12_here csX12_here 14
theorem sdX12_here : mj_Sd mX12_here 1 tX12_here := mj_ptw_sd dX12_here ⟨by decide, rfl, fun h => (by cases h)⟩ csX12_here_ok
def csX12_bad : List (Nat × Nat × Nat × mj_PT) := []
theorem csX12_bad_ok : mj_Cs mX12_bad 1 csX12_bad := mj_Cs0
def tX12_bad : mj_PT := mj_ptw mX12_bad pX12_bad csX12_bad 13
theorem sdX12_bad : mj_Sd mX12_bad 1 tX12_bad := mj_ptw_sd dX12_bad ⟨by decide, rfl, fun h => (by cases h)⟩ csX12_bad_ok
def csX12_isDigit : List (Nat × Nat × Nat × mj_PT) := []
theorem csX12_isDigit_ok : mj_Cs mX12_isDigit 1 csX12_isDigit := mj_Cs0
def tX12_isDigit : mj_PT := mj_ptw mX12_isDigit pX12_isDigit csX12_isDigit 11
theorem sdX12_isDigit : mj_Sd mX12_isDigit 1 tX12_isDigit := mj_ptw_sd dX12_isDigit ⟨by decide, rfl, fun h => (by cases h)⟩ csX12_isDigit_ok
def csX12_put : List (Nat × Nat × Nat × mj_PT) := []
theorem csX12_put_ok : mj_Cs mX12_put 1 csX12_put := mj_Cs0
def tX12_put : mj_PT := mj_ptw mX12_put pX12_put csX12_put 39
theorem sdX12_put : mj_Sd mX12_put 1 tX12_put := mj_ptw_sd dX12_put ⟨by decide, rfl, fun h => (by cases h)⟩ csX12_put_ok
def csX12_opens : List (Nat × Nat × Nat × mj_PT) := [(125, 0, 1, mj_rcv 12 tX12_bad)]
theorem csX12_opens_ok : mj_Cs mX12_opens 2 csX12_opens := (mj_CsV (D' := 1) (ci := 12) (q := (RX12, TX12, 45)) sdX12_bad (Nat.le_of_ble_eq_true rfl) fX12_bad rfl rfl iX12_bad vX12_bad (by decide +kernel) l12_125 mj_Cs0)
def tX12_opens : mj_PT := mj_ptw mX12_opens pX12_opens csX12_opens 20
theorem sdX12_opens : mj_Sd mX12_opens 2 tX12_opens := mj_ptw_sd dX12_opens ⟨by decide, rfl, fun h => (by cases h)⟩ csX12_opens_ok
def csX12_open : List (Nat × Nat × Nat × mj_PT) := []
theorem csX12_open_ok : mj_Cs mX12_open 1 csX12_open := mj_Cs0
def tX12_open : mj_PT := mj_ptw mX12_open pX12_open csX12_open 24
theorem sdX12_open : mj_Sd mX12_open 1 tX12_open := mj_ptw_sd dX12_open ⟨by decide, rfl, fun h => (by cases h)⟩ csX12_open_ok
def csX12_of : List (Nat × Nat × Nat × mj_PT) := []
theorem csX12_of_ok : mj_Cs mX12_of 1 csX12_of := mj_Cs0
def tX12_of : mj_PT := mj_ptw mX12_of pX12_of csX12_of 10
theorem sdX12_of : mj_Sd mX12_of 1 tX12_of := mj_ptw_sd dX12_of ⟨by decide, rfl, fun h => (by cases h)⟩ csX12_of_ok
def csX12_put_ : List (Nat × Nat × Nat × mj_PT) := []
theorem csX12_put__ok : mj_Cs mX12_put_ 1 csX12_put_ := mj_Cs0
def tX12_put_ : mj_PT := mj_ptw mX12_put_ pX12_put_ csX12_put_ 11
theorem sdX12_put_ : mj_Sd mX12_put_ 1 tX12_put_ := mj_ptw_sd dX12_put_ ⟨by decide, rfl, fun h => (by cases h)⟩ csX12_put__ok
def csX12_isBoat : List (Nat × Nat × Nat × mj_PT) := [(214, 1, 3, tX12_in)]
theorem csX12_isBoat_ok : mj_Cs mX12_isBoat 2 csX12_isBoat := (mj_CsS (D' := 1) sdX12_in (Nat.le_of_ble_eq_true rfl) fX12_in sX12_in (by decide +kernel) l12_214 mj_Cs0)
def tX12_isBoat : mj_PT := mj_ptw mX12_isBoat pX12_isBoat csX12_isBoat 9
theorem sdX12_isBoat : mj_Sd mX12_isBoat 2 tX12_isBoat := mj_ptw_sd dX12_isBoat ⟨by decide, rfl, fun h => (by cases h)⟩ csX12_isBoat_ok
def csX12_most : List (Nat × Nat × Nat × mj_PT) := []
theorem csX12_most_ok : mj_Cs mX12_most 1 csX12_most := mj_Cs0
def tX12_most : mj_PT := mj_ptw mX12_most pX12_most csX12_most 10
theorem sdX12_most : mj_Sd mX12_most 1 tX12_most := mj_ptw_sd dX12_most ⟨by decide, rfl, fun h => (by cases h)⟩ csX12_most_ok
def csX12_leftSeconds : List (Nat × Nat × Nat × mj_PT) := []
theorem csX12_leftSeconds_ok : mj_Cs mX12_leftSeconds 1 csX12_leftSeconds := mj_Cs0
def tX12_leftSeconds : mj_PT := mj_ptw mX12_leftSeconds pX12_leftSeconds csX12_leftSeconds 11
theorem sdX12_leftSeconds : mj_Sd mX12_leftSeconds 1 tX12_leftSeconds := mj_ptw_sd dX12_leftSeconds ⟨by decide, rfl, fun h => (by cases h)⟩ csX12_leftSeconds_ok
def csX12_line : List (Nat × Nat × Nat × mj_PT) := [(214, 1, 3, tX12_in)]
theorem csX12_line_ok : mj_Cs mX12_line 2 csX12_line := (mj_CsS (D' := 1) sdX12_in (Nat.le_of_ble_eq_true rfl) fX12_in sX12_in (by decide +kernel) l12_214 mj_Cs0)
def tX12_line : mj_PT := mj_ptw mX12_line pX12_line csX12_line 16
theorem sdX12_line : mj_Sd mX12_line 2 tX12_line := mj_ptw_sd dX12_line ⟨by decide, rfl, fun h => (by cases h)⟩ csX12_line_ok
def csX12_faster : List (Nat × Nat × Nat × mj_PT) := [(274, 0, 4, mj_rcv 12 tX12_put_), (283, 0, 3, mj_rcv 12 tX12_of), (295, 1, 2, mj_ptmx), (309, 0, 2, mj_rcv 12 tX12_most), (321, 1, 2, mj_ptmn)]
theorem csX12_faster_ok : mj_Cs mX12_faster 2 csX12_faster := (mj_CsV (D' := 1) (ci := 12) (q := (RX12, TX12, 45)) sdX12_put_ (Nat.le_of_ble_eq_true rfl) fX12_put_ rfl rfl iX12_put_ vX12_put_ (by decide +kernel) l12_274 (mj_CsV (D' := 1) (ci := 12) (q := (RX12, TX12, 45)) sdX12_of (Nat.le_of_ble_eq_true rfl) fX12_of rfl rfl iX12_of vX12_of (by decide +kernel) l12_283 (mj_Csmx (Nat.le_of_ble_eq_true rfl) l12_295 (mj_CsV (D' := 1) (ci := 12) (q := (RX12, TX12, 45)) sdX12_most (Nat.le_of_ble_eq_true rfl) fX12_most rfl rfl iX12_most vX12_most (by decide +kernel) l12_309 (mj_Csmn (Nat.le_of_ble_eq_true rfl) l12_321 mj_Cs0)))))
def tX12_faster : mj_PT := mj_ptw mX12_faster pX12_faster csX12_faster 18
theorem sdX12_faster : mj_Sd mX12_faster 2 tX12_faster := mj_ptw_sd dX12_faster ⟨by decide, rfl, fun h => (by cases h)⟩ csX12_faster_ok
def csX12_gust : List (Nat × Nat × Nat × mj_PT) := [(214, 1, 3, tX12_in)]
theorem csX12_gust_ok : mj_Cs mX12_gust 2 csX12_gust := (mj_CsS (D' := 1) sdX12_in (Nat.le_of_ble_eq_true rfl) fX12_in sX12_in (by decide +kernel) l12_214 mj_Cs0)
def tX12_gust : mj_PT := mj_ptw mX12_gust pX12_gust csX12_gust 17
theorem sdX12_gust : mj_Sd mX12_gust 2 tX12_gust := mj_ptw_sd dX12_gust ⟨by decide, rfl, fun h => (by cases h)⟩ csX12_gust_ok
def csX12_areSeconds : List (Nat × Nat × Nat × mj_PT) := [(214, 1, 3, tX12_in), (323, 0, 1, mj_rcv 12 tX12_leftSeconds)]
theorem csX12_areSeconds_ok : mj_Cs mX12_areSeconds 2 csX12_areSeconds := (mj_CsS (D' := 1) sdX12_in (Nat.le_of_ble_eq_true rfl) fX12_in sX12_in (by decide +kernel) l12_214 (mj_CsV (D' := 1) (ci := 12) (q := (RX12, TX12, 45)) sdX12_leftSeconds (Nat.le_of_ble_eq_true rfl) fX12_leftSeconds rfl rfl iX12_leftSeconds vX12_leftSeconds (by decide +kernel) l12_323 mj_Cs0))
def tX12_areSeconds : mj_PT := mj_ptw mX12_areSeconds pX12_areSeconds csX12_areSeconds 14
theorem sdX12_areSeconds : mj_Sd mX12_areSeconds 2 tX12_areSeconds := mj_ptw_sd dX12_areSeconds ⟨by decide, rfl, fun h => (by cases h)⟩ csX12_areSeconds_ok
def csX12_draw : List (Nat × Nat × Nat × mj_PT) := []
theorem csX12_draw_ok : mj_Cs mX12_draw 1 csX12_draw := mj_Cs0
def tX12_draw : mj_PT := mj_ptw mX12_draw pX12_draw csX12_draw 18
theorem sdX12_draw : mj_Sd mX12_draw 1 tX12_draw := mj_ptw_sd dX12_draw ⟨by decide, rfl, fun h => (by cases h)⟩ csX12_draw_ok
def csX12_thirdOf : List (Nat × Nat × Nat × mj_PT) := [(283, 0, 3, mj_rcv 12 tX12_of)]
theorem csX12_thirdOf_ok : mj_Cs mX12_thirdOf 2 csX12_thirdOf := (mj_CsV (D' := 1) (ci := 12) (q := (RX12, TX12, 45)) sdX12_of (Nat.le_of_ble_eq_true rfl) fX12_of rfl rfl iX12_of vX12_of (by decide +kernel) l12_283 mj_Cs0)
def tX12_thirdOf : mj_PT := mj_ptw mX12_thirdOf pX12_thirdOf csX12_thirdOf 13
theorem sdX12_thirdOf : mj_Sd mX12_thirdOf 2 tX12_thirdOf := mj_ptw_sd dX12_thirdOf ⟨by decide, rfl, fun h => (by cases h)⟩ csX12_thirdOf_ok
def csX12_isLaw : List (Nat × Nat × Nat × mj_PT) := [(214, 1, 3, tX12_in)]
theorem csX12_isLaw_ok : mj_Cs mX12_isLaw 2 csX12_isLaw := (mj_CsS (D' := 1) sdX12_in (Nat.le_of_ble_eq_true rfl) fX12_in sX12_in (by decide +kernel) l12_214 mj_Cs0)
def tX12_isLaw : mj_PT := mj_ptw mX12_isLaw pX12_isLaw csX12_isLaw 16
theorem sdX12_isLaw : mj_Sd mX12_isLaw 2 tX12_isLaw := mj_ptw_sd dX12_isLaw ⟨by decide, rfl, fun h => (by cases h)⟩ csX12_isLaw_ok
def csX12_picture : List (Nat × Nat × Nat × mj_PT) := [(214, 1, 3, tX12_in), (306, 0, 2, mj_rcv 12 tX12_isBoat)]
theorem csX12_picture_ok : mj_Cs mX12_picture 3 csX12_picture := (mj_CsS (D' := 1) sdX12_in (Nat.le_of_ble_eq_true rfl) fX12_in sX12_in (by decide +kernel) l12_214 (mj_CsV (D' := 2) (ci := 12) (q := (RX12, TX12, 45)) sdX12_isBoat (Nat.le_of_ble_eq_true rfl) fX12_isBoat rfl rfl iX12_isBoat vX12_isBoat (by decide +kernel) l12_306 mj_Cs0))
def tX12_picture : mj_PT := mj_ptw mX12_picture pX12_picture csX12_picture 46
theorem sdX12_picture : mj_Sd mX12_picture 3 tX12_picture := mj_ptw_sd dX12_picture ⟨by decide, rfl, fun h => (by cases h)⟩ csX12_picture_ok
def csX12_count : List (Nat × Nat × Nat × mj_PT) := []
theorem csX12_count_ok : mj_Cs mX12_count 1 csX12_count := mj_Cs0
def tX12_count : mj_PT := mj_ptw mX12_count pX12_count csX12_count 31
theorem sdX12_count : mj_Sd mX12_count 1 tX12_count := mj_ptw_sd dX12_count ⟨by decide, rfl, fun h => (by cases h)⟩ csX12_count_ok
def csJ6_signum_0f7a4 : List (Nat × Nat × Nat × mj_PT) := []
theorem csJ6_signum_0f7a4_ok : mj_Cs mJ6_signum_0f7a4 1 csJ6_signum_0f7a4 := mj_Cs0
def tJ6_signum_0f7a4 : mj_PT := mj_ptw mJ6_signum_0f7a4 pJ6_signum_0f7a4 csJ6_signum_0f7a4 10
theorem sdJ6_signum_0f7a4 : mj_Sd mJ6_signum_0f7a4 1 tJ6_signum_0f7a4 := mj_ptw_sd dJ6_signum_0f7a4 ⟨by decide, rfl, fun h => (by cases h)⟩ csJ6_signum_0f7a4_ok
def csJ0_coder_7d493 : List (Nat × Nat × Nat × mj_PT) := []
theorem csJ0_coder_7d493_ok : mj_Cs mJ0_coder_7d493 1 csJ0_coder_7d493 := mj_Cs0
def tJ0_coder_7d493 : mj_PT := mj_ptw mJ0_coder_7d493 pJ0_coder_7d493 csJ0_coder_7d493 8
theorem sdJ0_coder_7d493 : mj_Sd mJ0_coder_7d493 1 tJ0_coder_7d493 := mj_ptw_sd dJ0_coder_7d493 ⟨by decide, rfl, fun h => (by cases h)⟩ csJ0_coder_7d493_ok
def csJ0_isLatin1_aae02 : List (Nat × Nat × Nat × mj_PT) := []
theorem csJ0_isLatin1_aae02_ok : mj_Cs mJ0_isLatin1_aae02 1 csJ0_isLatin1_aae02 := mj_Cs0
def tJ0_isLatin1_aae02 : mj_PT := mj_ptw mJ0_isLatin1_aae02 pJ0_isLatin1_aae02 csJ0_isLatin1_aae02 10
theorem sdJ0_isLatin1_aae02 : mj_Sd mJ0_isLatin1_aae02 1 tJ0_isLatin1_aae02 := mj_ptw_sd dJ0_isLatin1_aae02 ⟨by decide, rfl, fun h => (by cases h)⟩ csJ0_isLatin1_aae02_ok
def csJ1_canEncode_9a6ad : List (Nat × Nat × Nat × mj_PT) := []
theorem csJ1_canEncode_9a6ad_ok : mj_Cs mJ1_canEncode_9a6ad 1 csJ1_canEncode_9a6ad := mj_Cs0
def tJ1_canEncode_9a6ad : mj_PT := mj_ptw mJ1_canEncode_9a6ad pJ1_canEncode_9a6ad csJ1_canEncode_9a6ad 10
theorem sdJ1_canEncode_9a6ad : mj_Sd mJ1_canEncode_9a6ad 1 tJ1_canEncode_9a6ad := mj_ptw_sd dJ1_canEncode_9a6ad ⟨by decide, rfl, fun h => (by cases h)⟩ csJ1_canEncode_9a6ad_ok
def csX3_setForDuel : List (Nat × Nat × Nat × mj_PT) := [(43, 0, 1, mj_rcv 3 tX3_empty), (46, 0, 3, mj_rcv 3 tX3_joinDuel)]
theorem csX3_setForDuel_ok : mj_Cs mX3_setForDuel 2 csX3_setForDuel := (mj_CsV (D' := 1) (ci := 3) (q := (RX3, TX3, 10)) sdX3_empty (Nat.le_of_ble_eq_true rfl) fX3_empty rfl rfl iX3_empty vX3_empty (by decide +kernel) l3_43 (mj_CsV (D' := 1) (ci := 3) (q := (RX3, TX3, 10)) sdX3_joinDuel (Nat.le_of_ble_eq_true rfl) fX3_joinDuel rfl rfl iX3_joinDuel vX3_joinDuel (by decide +kernel) l3_46 mj_Cs0))
def tX3_setForDuel : mj_PT := mj_ptw mX3_setForDuel pX3_setForDuel csX3_setForDuel 12
theorem sdX3_setForDuel : mj_Sd mX3_setForDuel 2 tX3_setForDuel := mj_ptw_sd dX3_setForDuel ⟨by decide, rfl, fun h => (by cases h)⟩ csX3_setForDuel_ok
def csX11_line : List (Nat × Nat × Nat × mj_PT) := [(204, 0, 1, mj_rcv 11 tX11_hasWater)]
theorem csX11_line_ok : mj_Cs mX11_line 2 csX11_line := (mj_CsV (D' := 1) (ci := 11) (q := (RX11, TX11, 18)) sdX11_hasWater (Nat.le_of_ble_eq_true rfl) fX11_hasWater rfl rfl iX11_hasWater vX11_hasWater (by decide +kernel) l11_204 mj_Cs0)
def tX11_line : mj_PT := mj_ptw mX11_line pX11_line csX11_line 17
theorem sdX11_line : mj_Sd mX11_line 2 tX11_line := mj_ptw_sd dX11_line ⟨by decide, rfl, fun h => (by cases h)⟩ csX11_line_ok
def csX11_canPass : List (Nat × Nat × Nat × mj_PT) := [(204, 0, 1, mj_rcv 11 tX11_hasWater), (243, 0, 2, mj_rcv 1 tX1_secondsLeft)]
theorem csX11_canPass_ok : mj_Cs mX11_canPass 2 csX11_canPass := (mj_CsV (D' := 1) (ci := 11) (q := (RX11, TX11, 18)) sdX11_hasWater (Nat.le_of_ble_eq_true rfl) fX11_hasWater rfl rfl iX11_hasWater vX11_hasWater (by decide +kernel) l11_204 (mj_CsV (D' := 1) (ci := 1) (q := (RX1, TX1, 1)) sdX1_secondsLeft (Nat.le_of_ble_eq_true rfl) fX1_secondsLeft rfl rfl iX1_secondsLeft vX1_secondsLeft (by decide +kernel) l11_243 mj_Cs0))
def tX11_canPass : mj_PT := mj_ptw mX11_canPass pX11_canPass csX11_canPass 18
theorem sdX11_canPass : mj_Sd mX11_canPass 2 tX11_canPass := mj_ptw_sd dX11_canPass ⟨by decide, rfl, fun h => (by cases h)⟩ csX11_canPass_ok
def csX11_tides : List (Nat × Nat × Nat × mj_PT) := [(204, 0, 1, mj_rcv 11 tX11_hasWater)]
theorem csX11_tides_ok : mj_Cs mX11_tides 2 csX11_tides := (mj_CsV (D' := 1) (ci := 11) (q := (RX11, TX11, 18)) sdX11_hasWater (Nat.le_of_ble_eq_true rfl) fX11_hasWater rfl rfl iX11_hasWater vX11_hasWater (by decide +kernel) l11_204 mj_Cs0)
def tX11_tides : mj_PT := mj_ptw mX11_tides pX11_tides csX11_tides 30
theorem sdX11_tides : mj_Sd mX11_tides 2 tX11_tides := mj_ptw_sd dX11_tides ⟨by decide, rfl, fun h => (by cases h)⟩ csX11_tides_ok
def csX11_picture : List (Nat × Nat × Nat × mj_PT) := [(160, 0, 2, mj_rcv 11 tX11_isBoat), (312, 0, 3, mj_rcv 5 tX5_canSee), (315, 0, 4, mj_rcv 5 tX5_addPicture)]
theorem csX11_picture_ok : mj_Cs mX11_picture 2 csX11_picture := (mj_CsV (D' := 1) (ci := 11) (q := (RX11, TX11, 18)) sdX11_isBoat (Nat.le_of_ble_eq_true rfl) fX11_isBoat rfl rfl iX11_isBoat vX11_isBoat (by decide +kernel) l11_160 (mj_CsV (D' := 1) (ci := 5) (q := (RX5, TX5, 6)) sdX5_canSee (Nat.le_of_ble_eq_true rfl) fX5_canSee rfl rfl iX5_canSee vX5_canSee (by decide +kernel) l11_312 (mj_CsV (D' := 1) (ci := 5) (q := (RX5, TX5, 6)) sdX5_addPicture (Nat.le_of_ble_eq_true rfl) fX5_addPicture rfl rfl iX5_addPicture vX5_addPicture (by decide +kernel) l11_315 mj_Cs0)))
def tX11_picture : mj_PT := mj_ptw mX11_picture pX11_picture csX11_picture 20
theorem sdX11_picture : mj_Sd mX11_picture 2 tX11_picture := mj_ptw_sd dX11_picture ⟨by decide, rfl, fun h => (by cases h)⟩ csX11_picture_ok
def csX11_points : List (Nat × Nat × Nat × mj_PT) := [(160, 0, 2, mj_rcv 11 tX11_isBoat)]
theorem csX11_points_ok : mj_Cs mX11_points 2 csX11_points := (mj_CsV (D' := 1) (ci := 11) (q := (RX11, TX11, 18)) sdX11_isBoat (Nat.le_of_ble_eq_true rfl) fX11_isBoat rfl rfl iX11_isBoat vX11_isBoat (by decide +kernel) l11_160 mj_Cs0)
def tX11_points : mj_PT := mj_ptw mX11_points pX11_points csX11_points 13
theorem sdX11_points : mj_Sd mX11_points 2 tX11_points := mj_ptw_sd dX11_points ⟨by decide, rfl, fun h => (by cases h)⟩ csX11_points_ok
def csJ0_length_8abf5 : List (Nat × Nat × Nat × mj_PT) := [(335, 0, 1, mj_rcS tJ0_coder_7d493)]
theorem csJ0_length_8abf5_ok : mj_Cs mJ0_length_8abf5 2 csJ0_length_8abf5 := (mj_CsVS (D' := 1) sdJ0_coder_7d493 (Nat.le_of_ble_eq_true rfl) fJ0_coder_7d493 rfl iJ0_coder_7d493 vJ0_coder_7d493 (by decide +kernel) l14_335 mj_Cs0)
def tJ0_length_8abf5 : mj_PT := mj_ptw mJ0_length_8abf5 pJ0_length_8abf5 csJ0_length_8abf5 8
theorem sdJ0_length_8abf5 : mj_Sd mJ0_length_8abf5 2 tJ0_length_8abf5 := mj_ptw_sd dJ0_length_8abf5 ⟨by decide, rfl, fun h => (by cases h)⟩ csJ0_length_8abf5_ok
end
section
/-! ===== GunLine.boat where it throws ===== -/
abbrev mj_NSE : String := "java/util/NoSuchElementException"
def mj_nse : List Cond := vx_at0 RX11 166 mj_NSE ["java/lang/RuntimeException", "java/lang/Exception"]
set_option maxRecDepth 100000 in
theorem mj_nseT : mj_nse.all (fun w => mj_gw w || (decide (w ∈ lw_tbl) && mj_isN w && w.onTables)) = true := by decide +kernel
set_option maxRecDepth 100000 in
theorem mj_nseO : (Cond.classLink RX11 164 mj_NSE :: Cond.initialized mj_NSE :: mj_nse).all vx_ot = true := by decide +kernel
set_option maxRecDepth 100000 in
theorem mj_nseW : mj_gw (Cond.classLink RX11 164 mj_NSE) = true ∧ mj_gw (Cond.initialized mj_NSE) = true := by decide +kernel
theorem mj_nse_hat {Ω : mj_Om} {s : State} {args : Array Value} (hts : ∀ w ∈ mj_GW, w.before args s = true) (hKc : mj_Kc Ω s) : ∀ w ∈ mj_nse, w.before args s = true := by
  intro w hw
  have h1 := List.all_eq_true.mp mj_nseT w hw
  simp only [Bool.or_eq_true, Bool.and_eq_true, decide_eq_true_eq] at h1
  rcases h1 with h1 | h1
  · exact hts w (mj_gw_in h1)
  · exact va_Nw.use h1.2 (hKc.1 w (List.mem_filter.mpr ⟨h1.1.1, h1.1.2⟩))
/-- 'throw new NoSuchElementException()' at the place pc of the class GunLine -/
theorem mj_throw {p : Program} {l : Launch} {e : Env} {R : Room} {s : State} {m : MethodId} {args : Array Value} {below : List Frame} {meth : Method} {c : Code} {Ω : mj_Om} {cc : ByteArray} {nL pc : Nat} {ret : Option FieldType} {L : List (Option Value)} {M : mj_M} {Qc : Array Value → State → Outcome → State → Prop} (F : mj_F Ω p s m args meth c 11 false cc nL ret) (hl : l.stackTraces = false)
    (d0 : decode cc pc = .ok (.new 164, 3)) (d3 : decode cc (pc + 3) = .ok (.dup, 1)) (d4 : decode cc (pc + 4) = .ok (.invokespecial 166, 3)) (d7 : decode cc (pc + 7) = .ok (.athrow, 1)) (hout : ∀ x ∈ c.exceptionTable.toList, covers x (pc + 7) = false) (hR : 5 < R.frames ∧ 100 ≤ R.locals ∧ 1 ≤ R.cells ∧ 6 ≤ R.slots) :
    mj_Wg Ω false nL p l e R s m args below meth c 0 0 (vx_MQ below Qc (vx_X (fun _ : Unit => True) (fun E _ t => E = mj_NSE ∧ va_P Ω.1 vwCl (mj_w Ω M) t.heap) (mj_A Ω)) args s 1 6 (mj_A Ω)) pc (L, [], M) := by
  intro H locs ls hH hls
  obtain ⟨hx, hb, hml, hown, hts, hr, hlk2, hK, hin, hbs, hKc⟩ := F
  refine vx_throw0 (rest := []) (names := ["java/lang/RuntimeException", "java/lang/Exception"]) hx hb hl (own := RX11) (cls := mj_NSE) hown (by decide) (by decide) (hts _ (mj_gw_in mj_nseW.1)) (hts _ (mj_gw_in mj_nseW.2)) (mj_nse_hat hts hKc) (fun w hw => List.all_eq_true.mp mj_nseO w hw) hKc.2.1.2.1.2.1 hKc.2.1.2.1.2.2 hH.2.2 (by rw [hml]; exact hls.1) d0 d3 d4 d7 hout (by show 2 + 3 < R.frames; omega) (by show 0 + (13 * (2 + 1) + 42) ≤ R.locals; omega) (by omega) (by omega) hlk2 (fun t hal hsz hold => ?_) hH.2.2.2.2 (Nat.le_refl _) (Nat.le_refl _)
  have hkeep : ∀ a : Nat, a < s.heap.size → ¬ mj_A Ω a → t.heap[a]? = s.heap[a]? := fun a h1 h2 => (hold a (Nat.lt_of_lt_of_le h1 hH.2.2.1)).trans (hH.2.2.2.1 a h1 h2)
  exact ⟨(), trivial, ⟨rfl, hH.1.kept (fun k x hx => hold x.1 ((hH.1 k x hx).lt))⟩, ⟨Nat.le_trans hH.2.2.1 hsz, hkeep⟩⟩
/-- boat(b, w): no such ones -/
def mj_badB (I : Nat → Nat → Int32) (b w : Int32) : Prop := b < 0 ∨ ¬ b < I 39 8 ∨ w < 0 ∨ 11 < w
theorem csX11_boatB : mj_Cs mX11_boat 9 [(160, 0, 2, mj_rcv 11 tX11_isBoat)] := mj_CsV (D' := 1) (ci := 11) (q := (RX11, TX11, 18)) sdX11_isBoat (Nat.le_of_ble_eq_true rfl) fX11_isBoat rfl rfl iX11_isBoat vX11_isBoat (by decide +kernel) l11_160 mj_Cs0
def pX11_boatB : List (Nat × Instr × Nat) := pX11_boat.take 9
theorem dX11_boatB : mj_pd cX11_boat pX11_boatB := fun e he => dX11_boat e (List.mem_of_mem_take he)
set_option maxRecDepth 100000 in
theorem mj_boatX (Qc : Array Value → State → Outcome → State → Prop) (Ω : mj_Om) (l : Launch) (hl : l.stackTraces = false) (I : Nat → Nat → Int32) (J : Nat → Nat → Int64) (b w : Int32) (hbad : mj_badB I b w) : vx_Met l yX11_boat (mj_ws mX11_boat) (mj_rm 10 1 6) (mj_Pc Ω false [.ref 0, .int b, .int w] (mk I J)) Qc (vx_X (fun _ : Unit => True) (fun E _ t => E = mj_NSE ∧ va_P Ω.1 vwCl (mj_w Ω (mk I J)) t.heap) (mj_A Ω)) 1 6 (mj_A Ω) := by
  refine vx_ofW (cc := cX11_boat) (maxL := 3) (ret := some .int) (by decide) rfl ?_
  intro p e s m args below meth c s₁ B hml hexc hv
  obtain ⟨rfl, hP, hal, hbs, hK, hKc⟩ := hv
  have hts := atoms_spec (ws := mj_ws mX11_boat) B.pre
  have F : mj_F Ω p s m ([Value.ref 0, .int b, .int w].map (mj_v Ω)).toArray meth c 11 false cX11_boat 3 (some .int) :=
    ⟨B.exec, B.bytes, hml, findClass_of_methodNamed B.named, fun w hw => hts w (List.mem_cons_of_mem _ hw), B.returns, B.notSynchronized, hK, fun q => (by cases q), hbs, hKc⟩
  have hle : (lg_sl ([Value.ref 0, .int b, .int w].map (mj_v Ω))).length ≤ 3 := Nat.le_of_eq rfl
  have hls := lv_entry ([Value.ref 0, .int b, .int w].map (mj_v Ω)) hle
  rw [lg_entry_eq]
  have hd : ∀ k pc i n, pX11_boat[k]? = some (pc, i, n) → decode cX11_boat pc = .ok (i, n) := fun k pc i n h => (dX11_boat _ (List.mem_of_getElem? h)).1
  have hthrow : ∀ L : List (Option Value), mj_Wg Ω false 3 p l e (mj_rm 10 1 6) s m ([Value.ref 0, .int b, .int w].map (mj_v Ω)).toArray below meth c 0 0 (vx_MQ below Qc (vx_X (fun _ : Unit => True) (fun E _ t => E = mj_NSE ∧ va_P Ω.1 vwCl (mj_w Ω (mk I J)) t.heap) (mj_A Ω)) ([Value.ref 0, .int b, .int w].map (mj_v Ω)).toArray s 1 6 (mj_A Ω)) 18 (L, [], mk I J) :=
    fun L => mj_throw F hl (hd 9 18 _ _ rfl) (hd 10 21 _ _ rfl) (hd 11 22 _ _ rfl) (hd 12 25 _ _ rfl) (fun x hx => (hexc x hx).elim) ⟨by decide, by decide, by decide, by decide⟩
  have key : mj_Wg Ω false 3 p l e (mj_rm 10 1 6) s m ([Value.ref 0, .int b, .int w].map (mj_v Ω)).toArray below meth c 0 0 (vx_MQ below Qc (vx_X (fun _ : Unit => True) (fun E _ t => E = mj_NSE ∧ va_P Ω.1 vwCl (mj_w Ω (mk I J)) t.heap) (mj_A Ω)) ([Value.ref 0, .int b, .int w].map (mj_v Ω)).toArray s 1 6 (mj_A Ω)) 0 ([some (.ref 0), some (.int b), some (.int w)], [], mk I J) := by
    refine mj_run_ok (pe := 2) (K := fun S' => S' = (([some (.ref 0), some (.int b), some (.int w)], [.int b, .ref 0], mk I J) : mj_S)) F [.aload_n 0, .iload_n 1] ⟨hd 0 0 _ _ rfl, hd 1 1 _ _ rfl, rfl⟩ (show (([some (.ref 0), some (.int b), some (.int w)], [.int b, .ref 0], mk I J) : mj_S) = ([some (.ref 0), some (.int b), some (.int w)], [.int b, .ref 0], mk I J) from rfl) (fun S' h => ?_)
    subst h
    refine csX11_boatB Ω l 10 (by omega) _ (List.mem_singleton.mpr rfl) p e s m _ below meth c _ (mj_rm 10 1 6) 0 0 2 _ [.ref 0, .int b] [] (mk I J) (fun r M' => M' = mk I J ∧ r = some (.int (if b < 0 then 0 else if b < I 39 8 then 1 else 0))) F ⟨Nat.le_refl _, Nat.le_refl _, Nat.zero_le _, Nat.zero_le _⟩ (hd 2 2 _ _ rfl) rfl (Nat.zero_le _) ?_ (fun r M' hr => ?_)
    · show (if b < 0 then (mk I J = mk I J ∧ some (Value.int 0) = some (Value.int (if b < 0 then 0 else if b < I 39 8 then 1 else 0))) else (if b < I 39 8 then (mk I J = mk I J ∧ some (Value.int 1) = some (Value.int (if b < 0 then 0 else if b < I 39 8 then 1 else 0))) else (mk I J = mk I J ∧ some (Value.int 0) = some (Value.int (if b < 0 then 0 else if b < I 39 8 then 1 else 0)))))
      by_cases h1 : b < 0
      · simp [h1]
      · by_cases h2 : b < I 39 8
        · simp [h1, h2]
        · simp [h1, h2]
    · obtain ⟨rfl, rfl⟩ := hr
      intro H locs ls hH hls2
      refine lv_if_eq (tgt := 18) F.1 F.2.1 (hd 3 5 _ _ rfl) rfl (fun _ => hthrow _ H locs ls hH hls2) (fun hne => ?_)
      have hin : ¬ b < 0 ∧ b < I 39 8 := by
        by_cases h1 : b < 0
        · simp [h1] at hne
        · by_cases h2 : b < I 39 8
          · exact ⟨h1, h2⟩
          · simp [h1, h2] at hne
      have hw : w < 0 ∨ 11 < w := by
        rcases hbad with h | h | h | h
        · exact absurd h hin.1
        · exact absurd hin.2 h
        · exact Or.inl h
        · exact Or.inr h
      refine mj_run_ok (pe := 9) (S := ([some (.ref 0), some (.int b), some (.int w)], [], mk I J)) (K := fun S' => S' = (([some (.ref 0), some (.int b), some (.int w)], [.int w], mk I J) : mj_S)) F [.iload_n 2] ⟨hd 4 8 _ _ rfl, rfl⟩ (show (([some (.ref 0), some (.int b), some (.int w)], [.int w], mk I J) : mj_S) = ([some (.ref 0), some (.int b), some (.int w)], [.int w], mk I J) from rfl) (fun S' h => ?_) H locs ls hH hls2
      subst h
      intro H locs ls hH hls2
      refine lv_if_lt (tgt := 18) F.1 F.2.1 (hd 5 9 _ _ rfl) rfl (fun _ => hthrow _ H locs ls hH hls2) (fun hn0 => ?_)
      refine mj_run_ok (pe := 15) (S := ([some (.ref 0), some (.int b), some (.int w)], [], mk I J)) (K := fun S' => S' = (([some (.ref 0), some (.int b), some (.int w)], [.int 11, .int w], mk I J) : mj_S)) F [.iload_n 2, .bipush 11] ⟨hd 6 12 _ _ rfl, hd 7 13 _ _ rfl, rfl⟩ (show (([some (.ref 0), some (.int b), some (.int w)], [.int 11, .int w], mk I J) : mj_S) = ([some (.ref 0), some (.int b), some (.int w)], [.int 11, .int w], mk I J) from rfl) (fun S' h => ?_) H locs ls hH hls2
      subst h
      intro H locs ls hH hls2
      refine lv_icmp_le (tgt := 26) F.1 F.2.1 (hd 8 15 _ _ rfl) rfl (fun hle => ?_) (fun _ => hthrow _ H locs ls hH hls2)
      rcases hw with h | h
      · exact absurd h hn0
      · exact absurd h (Int32.not_lt.mpr hle)
  refine key s.heap [] _ ⟨hP, hal, va_S.rf⟩ ⟨hls.1, hls.2.1, fun i v hiv => ?_⟩
  have h2 : (mj_flat [Value.ref 0, .int b, .int w])[i]? = some (some v) := hiv
  have := hls.2.2 _ (mj_flat_in (Ω := Ω) _ 0 i v h2)
  simpa using this
end
section
/-! ===== the law's own boat(x, b, w, out): 0 and the answer, or 1 ===== -/
def mj_wsH : List Cond := Cond.codeWith yL_boat cL_boat 5 (some .int) [(0, 10, 13, 13)] :: mj_GW
def pL_boat : List (Nat × Instr × Nat) := [(0, .aload_n 3, 1), (1, .iconst 0, 1), (2, .aload_n 0, 1), (3, .iload_n 1, 1), (4, .iload_n 2, 1), (5, .invokevirtual 7, 3), (8, .i2l, 1), (9, .lastore, 1), (10, .goto 7, 3), (13, .astore 4, 2), (15, .iconst 1, 1), (16, .ireturn, 1), (17, .iconst 0, 1), (18, .ireturn, 1)]
theorem dL_boat : (pL_boat.all (fun e => decide (decode cL_boat e.1 = .ok (e.2.1, e.2.2)))) = true := by decide +kernel
set_option maxRecDepth 100000 in
theorem mj_helpW : mj_gw (Cond.methodLink RL 7 yX11_boat) = true ∧ mj_gw (Cond.codeWith yL_boat cL_boat 5 (some .int) [(0, 10, 13, 13)]) = true ∧ mj_gw (Cond.classLink RL 13 mj_NSE) = true ∧ (decide (Cond.castable mj_NSE mj_NSE ∈ lw_tbl)) = true := by decide +kernel
abbrev mj_hL (b w : Int32) : List (Option Value) := [some (.ref 0), some (.int b), some (.int w), some (.ref 120), none]
theorem mj_help_in {Ω : mj_Om} {l : Launch} {mc ms : Nat} {Qc : Array Value → State → Outcome → State → Prop} {I : Nat → Nat → Int32} {J : Nat → Nat → Int64} {b w : Int32}
    (body : ∀ (p : Program) (e : Env) (s : State) (m : MethodId) (args : Array Value) (below : List Frame) (meth : Method) (c : Code), mj_F Ω p s m args meth c 13 false cL_boat 5 (some .int) → c.exceptionTable.toList = tableOf [(0, 10, 13, 13)] → mj_Wg Ω false 5 p l e (mj_rm 12 mc ms) s m args below meth c 0 0 (vx_MQ below Qc (fun _ _ _ => False) args s mc ms (mj_A Ω)) 0 (mj_hL b w, [], mk I J)) :
    vx_Met l yL_boat mj_wsH (mj_rm 12 mc ms) (mj_Pc Ω false [.ref 0, .int b, .int w, .ref 120] (mk I J)) Qc (fun _ _ _ => False) mc ms (mj_A Ω) := by
  refine vx_ofWH (cc := cL_boat) (maxL := 5) (ret := some .int) (hh := [(0, 10, 13, 13)]) (by decide) rfl ?_
  intro p e s m args below meth c s₁ B hml hv
  obtain ⟨rfl, hP, hal, hbs, hK, hKc⟩ := hv
  have hts := atoms_spec (ws := mj_wsH) B.pre
  have F : mj_F Ω p s m ([Value.ref 0, .int b, .int w, .ref 120].map (mj_v Ω)).toArray meth c 13 false cL_boat 5 (some .int) :=
    ⟨B.exec, B.bytes, hml, findClass_of_methodNamed B.named, fun w hw => hts w (List.mem_cons_of_mem _ hw), B.returns, B.notSynchronized, hK, fun q => (by cases q), hbs, hKc⟩
  have hle : (lg_sl ([Value.ref 0, .int b, .int w, .ref 120].map (mj_v Ω))).length ≤ 5 := Nat.le_of_ble_eq_true rfl
  have hls := lv_entry ([Value.ref 0, .int b, .int w, .ref 120].map (mj_v Ω)) hle
  rw [lg_entry_eq]
  refine body p e s m _ below meth c F (vx_table (x := yL_boat) B (hts _ List.mem_cons_self)) s.heap [] _ ⟨hP, hal, va_S.rf⟩ ⟨hls.1, hls.2.1, fun i v hiv => ?_⟩
  have hil : i < 4 := by
    have hlt : i < 5 := (List.getElem?_eq_some_iff.mp hiv).1
    rcases Nat.lt_or_ge i 4 with q | q
    · exact q
    · rw [show i = 4 by omega] at hiv
      cases hiv
  have h2 : (mj_flat [Value.ref 0, .int b, .int w, .ref 120])[i]? = some (some v) := by
    match i, hil, hiv with
    | 0, _, h => exact h
    | 1, _, h => exact h
    | 2, _, h => exact h
    | 3, _, h => exact h
  have := hls.2.2 _ (mj_flat_in (Ω := Ω) _ 0 i v h2)
  simpa using this
set_option maxHeartbeats 4000000 in
/-- no such ones: it answers 1 -/
theorem mj_helpX (Ω : mj_Om) (l : Launch) (hl : l.stackTraces = false) (I : Nat → Nat → Int32) (J : Nat → Nat → Int64) (b w : Int32) (hbad : mj_badB I b w) : vx_Met l yL_boat mj_wsH (mj_rm 12 1 6) (mj_Pc Ω false [.ref 0, .int b, .int w, .ref 120] (mk I J)) (mj_Qc Ω false (fun r M' => r = some (.int 1) ∧ M' = mk I J)) (fun _ _ _ => False) 1 6 (mj_A Ω) := by
  refine mj_help_in (fun p e s m args below meth c F hexc => ?_)
  refine mj_run_ok (pe := 5) (K := fun S' => S' = ((mj_hL b w, [.int w, .int b, .ref 0, .int 0, .ref 120], mk I J) : mj_S)) F [.aload_n 3, .iconst 0, .aload_n 0, .iload_n 1, .iload_n 2] ⟨mj_ade dL_boat 0 rfl, mj_ade dL_boat 1 rfl, mj_ade dL_boat 2 rfl, mj_ade dL_boat 3 rfl, mj_ade dL_boat 4 rfl, rfl⟩ (show ((mj_hL b w, [.int w, .int b, .ref 0, .int 0, .ref 120], mk I J) : mj_S) = (mj_hL b w, [.int w, .int b, .ref 0, .int 0, .ref 120], mk I J) from rfl) (fun S' h => ?_)
  subst h
  intro H locs ls hH hls
  obtain ⟨hx, hb, hml, hown, hts, hr, hlk2, hK, hin, hbs, hKc⟩ := F
  have hG : GoodIn mj_GW (wsV RL 7 RX11 yX11_boat (mj_ws mX11_boat)) := by
    intro w hw
    unfold wsV mj_ws at hw
    simp only [List.cons_append, List.nil_append, List.mem_cons] at hw
    rcases hw with rfl | rfl | rfl | rfl | rfl | hw
    · exact mj_good (mj_gw_in mj_helpW.1)
    · exact mj_good iX11_boat
    · exact mj_good vX11_boat
    · exact mj_good fX11_boat.2.1
    · exact mj_good fX11_boat.1
    · exact mj_good hw
  have hsh : mj_sh (mk I J) 0 = some (11 + 4, 0) := rfl
  have he := mj_w_at (Ω := Ω) hsh
  have cw := cwV (R := mj_rm 12 1 6) (s := s) (args := args) (own := RL) (C := RX11) (index := 7) (y := yX11_boat) (bytes := cX11_boat) (maxL := 3) (ret := some .int) (ws := mj_ws mX11_boat) (rm := mj_rm 10 1 6) (mc := 1) (ms := 6) 2 hts hG rfl rfl rfl ⟨rfl, by decide, by decide, by decide +kernel⟩ ⟨by decide, by decide⟩
  have run := vx_runV (l := l) (e := e) (below := below) (meth := meth) (cells := 0) (slots := 0) (locs := locs) (As := [.int b, .int w]) (rest := [.int 0, .ref (mj_q Ω 120)]) (g := F0 m 5 ls (([.int w, .int b, .ref 0, .int 0, .ref 120] : List Value).map (mj_v Ω))) (b := mj_q Ω 0) (H := H) ⟨hx, hb, hml, hown, hts⟩ (mj_boatX (va_Qi (fun (_ : Int32) (_ : Unit) => False) (fun _ _ => True) (mj_A Ω)) Ω l hl I J b w hbad) cw
    ⟨mj_blind, va_recv hK hH.1 rfl he, fun U hU hWm => ⟨rfl, by rw [hU]; exact hH.1, by rw [hU]; exact hH.2.1, by rw [hU]; exact Nat.le_trans hbs hH.2.2.1, va_K.moved hWm.alike hK, mj_Kc_warm hKc hWm (fun a h1 h2 => by rw [hU]; exact hH.2.2.2.1 a h1 h2)⟩⟩ rfl rfl hls.1 rfl (by show 2 * 0 + 2 ≤ 8; omega) (mj_ade dL_boat 5 rfl) ⟨Nat.le_refl _, Nat.le_refl _⟩
  refine vx_calli run hH.2.2 (fun q _ h => h) (fun q h => h) (fun q _ h => h) (fun E ce q9 u t H1 locs1 ht hvm _ hB hz hk hS hce hcv hcl => ?_) (fun r u t H1 locs1 _ _ hf => hf.elim)
  obtain ⟨rfl, hP1⟩ := hB
  rw [ht] at hP1
  refine vx_catch (own := RL) (name := mj_NSE) hown [] ⟨0, 10, 13, 13⟩ [] (by rw [hexc]; rfl) (fun z hz => (by cases hz)) (by decide) (by decide) (hts _ (mj_gw_in mj_helpW.2.2.1)) (va_Nw.use rfl (hKc.1 _ (List.mem_filter.mpr ⟨of_decide_eq_true mj_helpW.2.2.2, rfl⟩))) hce hcv hcl ?_
  refine lv_astore hx hb (mj_ade dL_boat 9 rfl) (mj_l_of hls) (by decide) rfl (fun ls' hl' => ?_)
  refine lv_iconst (v := 1) hx hb (mj_ade dL_boat 10 rfl) (by decide) ?_
  refine vx_ret (W.widen (k := 1) (n := 6) (Nat.le_refl _) (Nat.le_refl _) ?_)
  have hH1 : mj_H Ω false (mk I J) s H1 locs1 := ⟨hP1, fun h => (by cases h), hS⟩
  exact W.iret hx hb hr (mj_leave (Φ := fun r M' => r = some (.int 1) ∧ M' = mk I J) (as := args) hbs hK hKc hH1 (some (.int 1)) ⟨rfl, rfl⟩) hS.2.2 (mj_ade dL_boat 11 rfl) hlk2
set_option maxHeartbeats 4000000 in
/-- such ones: 0, and the answer in out -/
theorem mj_helpV (Ω : mj_Om) (l : Launch) (I : Nat → Nat → Int32) (J : Nat → Nat → Int64) (b w v : Int32) (hM : mj_Met Ω l false mX11_boat 10 0 0 [.ref 0, .int b, .int w] (mk I J) (fun r M' => r = some (.int v) ∧ M' = mk I J)) : vx_Met l yL_boat mj_wsH (mj_rm 12 1 6) (mj_Pc Ω false [.ref 0, .int b, .int w, .ref 120] (mk I J)) (mj_Qc Ω false (fun r M' => r = some (.int 0) ∧ M' = mk I (mj_ul J 120 0 v.toInt64))) (fun _ _ _ => False) 1 6 (mj_A Ω) := by
  refine mj_help_in (fun p e s m args below meth c F hexc => ?_)
  refine mj_run_ok (pe := 5) (K := fun S' => S' = ((mj_hL b w, [.int w, .int b, .ref 0, .int 0, .ref 120], mk I J) : mj_S)) F [.aload_n 3, .iconst 0, .aload_n 0, .iload_n 1, .iload_n 2] ⟨mj_ade dL_boat 0 rfl, mj_ade dL_boat 1 rfl, mj_ade dL_boat 2 rfl, mj_ade dL_boat 3 rfl, mj_ade dL_boat 4 rfl, rfl⟩ (show ((mj_hL b w, [.int w, .int b, .ref 0, .int 0, .ref 120], mk I J) : mj_S) = (mj_hL b w, [.int w, .int b, .ref 0, .int 0, .ref 120], mk I J) from rfl) (fun S' h => ?_)
  subst h
  have hc : mj_Call Ω l false (13, false, cL_boat, 5, some .int, yL_boat) 11 7 0 (2 + 1) (mj_rcv 11 (fun as M Φ => as = [.ref 0, .int b, .int w] ∧ M = mk I J ∧ Φ (some (.int v)) (mk I J))) := mj_callV (d' := 10) (q := (RX11, TX11, 18)) (Nat.le_refl _) (fun as M Φ h => by
    obtain ⟨rfl, rfl, h⟩ := h
    exact mj_Met_mono (fun r M' h' => by obtain ⟨rfl, rfl⟩ := h'; exact h) hM) fX11_boat rfl rfl iX11_boat vX11_boat (by decide +kernel) (mj_gw_in mj_helpW.1)
  refine hc p e s m args below meth c _ (mj_rm 12 1 6) 0 0 5 _ [.ref 0, .int b, .int w] [.int 0, .ref 120] (mk I J) (fun r M' => r = some (.int v) ∧ M' = mk I J) F ⟨by decide, by decide, by decide, by decide⟩ (mj_ade dL_boat 5 rfl) rfl (by decide) (show (([.ref 0, .int b, .int w] : List Value) = [.ref 0, .int b, .int w] ∧ mk I J = mk I J ∧ (some (Value.int v) = some (.int v) ∧ mk I J = mk I J)) from ⟨rfl, rfl, rfl, rfl⟩) (fun r M' h => ?_)
  obtain ⟨rfl, rfl⟩ := h
  refine mj_run_ok (pe := 10) (K := fun S' => S' = ((mj_hL b w, [], mk I (mj_ul J 120 0 v.toInt64)) : mj_S)) F [.i2l, .lastore] ⟨mj_ade dL_boat 6 rfl, mj_ade dL_boat 7 rfl, rfl⟩ (show ((mj_hL b w, [], mk I (mj_ul J 120 0 v.toInt64)) : mj_S) = (mj_hL b w, [], mk I (mj_ul J 120 0 v.toInt64)) from rfl) (fun S' h => ?_)
  subst h
  intro H locs ls hH hls
  obtain ⟨hx, hb, hml, hown, hts, hr, hlk2, hK, hin, hbs, hKc⟩ := F
  refine lv_goto (tgt := 17) hx hb (mj_ade dL_boat 8 rfl) rfl ?_
  refine lv_iconst (v := 0) hx hb (mj_ade dL_boat 12 rfl) (by decide) ?_
  refine vx_ret (W.widen (k := 1) (n := 6) (by omega) (by omega) ?_)
  exact W.iret hx hb hr (mj_leave (Φ := fun r M' => r = some (.int 0) ∧ M' = mk I (mj_ul J 120 0 v.toInt64)) (as := args) hbs hK hKc hH (some (.int 0)) ⟨rfl, rfl⟩) hH.2.2.2.2 (mj_ade dL_boat 13 rfl) hlk2
end
section
/-! ===== numbers, loops, views ===== -/
theorem jn_toInt {a : Nat} (h : a < 2147483648) : (nI a).toInt = a := Int32.toInt_ofNat_of_lt h
theorem jn_lt {a b : Nat} (ha : a < 2147483648) (hb : b < 2147483648) : (nI a < nI b) = (a < b) := by
  rw [Int32.lt_iff_toInt_lt, jn_toInt ha, jn_toInt hb]; simp
theorem jn_le {a b : Nat} (ha : a < 2147483648) (hb : b < 2147483648) : (nI a ≤ nI b) = (a ≤ b) := by
  rw [Int32.le_iff_toInt_le, jn_toInt ha, jn_toInt hb]; simp
theorem jn_eq {a b : Nat} (ha : a < 2147483648) (hb : b < 2147483648) : (nI a = nI b) = (a = b) := by
  rw [← Int32.toInt_inj, jn_toInt ha, jn_toInt hb]; exact propext Int.ofNat_inj
theorem jn_add (a b : Nat) : nI a + nI b = nI (a + b) := (Int32.ofNat_add a b).symm
theorem jn_mul (a b : Nat) : nI a * nI b = nI (a * b) := (Int32.ofNat_mul a b).symm
theorem jn_succ (a : Nat) : nI a + 1 = nI (a + 1) := jn_add a 1
theorem jn_cl {a : Nat} (h : a < 2147483648) : (nI a).toNatClampNeg = a := by
  rw [Int32.toNatClampNeg, jn_toInt h]; simp
theorem jn_in {a n : Nat} (h : a < 2147483648) : mj_inB (nI a) n = decide (a < n) := by
  rw [mj_inB, jn_cl h]
  have : (0 : Int32) ≤ nI a := by rw [show (0 : Int32) = nI 0 from rfl, jn_le (by omega) h]; omega
  simp [this]
theorem jn_of {x : Int32} (h : 0 ≤ x) : x = nI x.toNatClampNeg := by
  have h0 : 0 ≤ x.toInt := by rw [Int32.le_iff_toInt_le] at h; simpa using h
  have h1 : x.toInt < 2147483648 := Int32.toInt_lt x
  apply Int32.toInt_inj.mp
  rw [jn_toInt (by rw [Int32.toNatClampNeg]; omega), Int32.toNatClampNeg]
  omega
theorem jn_sub {a b : Nat} (h : b ≤ a) : nI a - nI b = nI (a - b) := by
  have := jn_add (a - b) b
  rw [Nat.sub_add_cancel h] at this
  rw [← this]
  exact Int32.add_sub_cancel _ _
theorem i32 (k : Nat) : (OfNat.ofNat k : Int32) = nI k := rfl
theorem n6_0 (i : Nat) : (6 : Int32) * nI i + 0 = nI (6 * i) := by rw [show (6 : Int32) = nI 6 from rfl, jn_mul]; exact Int32.add_zero _
theorem n6_1 (i : Nat) : (6 : Int32) * nI i + 1 = nI (6 * i + 1) := by rw [show (6 : Int32) = nI 6 from rfl, jn_mul]; exact jn_add _ 1
theorem n6_2 (i : Nat) : (6 : Int32) * nI i + 2 = nI (6 * i + 2) := by rw [show (6 : Int32) = nI 6 from rfl, jn_mul]; exact jn_add _ 2
theorem n6_3 (i : Nat) : (6 : Int32) * nI i + 3 = nI (6 * i + 3) := by rw [show (6 : Int32) = nI 6 from rfl, jn_mul]; exact jn_add _ 3
theorem n6_4 (i : Nat) : (6 : Int32) * nI i + 4 = nI (6 * i + 4) := by rw [show (6 : Int32) = nI 6 from rfl, jn_mul]; exact jn_add _ 4
theorem n6_5 (i : Nat) : (6 : Int32) * nI i + 5 = nI (6 * i + 5) := by rw [show (6 : Int32) = nI 6 from rfl, jn_mul]; exact jn_add _ 5
theorem gd_pos {b : Bool} {K : Prop} (hb : b = true) (h : K) : mj_gd b K := mj_gd_iff.mpr ⟨hb, h⟩
theorem gd_in {a n : Nat} {K : Prop} (ha : a < 2147483648) (hn : a < n) (h : K) : mj_gd (mj_inB (nI a) n) K := gd_pos (by rw [jn_in ha]; simpa using hn) h
theorem gd_true {K : Prop} : mj_gd true K = K := rfl
theorem gd_dec {p : Prop} [Decidable p] {K : Prop} (hp : p) : mj_gd (decide p) K = K := by simp [hp, mj_gd]
/-- a loop that counts up to n -/
theorem lp_inv {σ : Type} {n : Nat} {G : Nat → σ → Prop} (Inv : Nat → σ → Prop) (step : ∀ i s, i < n → Inv i s → (∀ s', Inv (i + 1) s' → G (i + 1) s') → G i s) (fin : ∀ s, Inv n s → G n s) : ∀ k i s, i + k = n → Inv i s → G i s := by
  intro k
  induction k with
  | zero => intro i s h hI; obtain rfl : i = n := by omega
            exact fin s hI
  | succ k ih => intro i s h hI; exact step i s (by omega) hI (fun s' hI' => ih (i + 1) s' (by omega) hI')
/-- a loop that looks for the first one -/
theorem lp_find {n : Nat} {G : Nat → Prop} (p : Nat → Prop) {A B : Prop} (step : ∀ i, i < n → (p i → A) → (¬ p i → G (i + 1)) → G i) (fin : B → G n) (h1 : (∃ i, i < n ∧ p i) → A) (h0 : (¬ ∃ i, i < n ∧ p i) → B) : ∀ k i, i + k = n → (∀ j, j < i → ¬ p j) → G i := by
  intro k
  induction k with
  | zero => intro i h hI; obtain rfl : i = n := by omega
            exact fin (h0 (fun ⟨j, hj, hp⟩ => hI j hj hp))
  | succ k ih => 
    intro i h hI
    refine step i (by omega) (fun hp => h1 ⟨i, by omega, hp⟩) (fun hp => ih (i + 1) (by omega) (fun j hj => ?_))
    rcases Nat.lt_or_ge j i with q | q
    · exact hI j q
    · rw [show j = i by omega]; exact hp
noncomputable def b2i (p : Prop) : Int32 := @ite Int32 p (Classical.propDecidable p) 1 0
theorem b2i_1 {p : Prop} (h : p) : b2i p = 1 := @if_pos p (Classical.propDecidable p) h Int32 1 0
theorem b2i_0 {p : Prop} (h : ¬ p) : b2i p = 0 := @if_neg p (Classical.propDecidable p) h Int32 1 0
theorem b2i_e1 {p : Prop} : (b2i p = 1) = p := by
  rcases Classical.em p with h | h
  · rw [b2i_1 h]; simp [h]
  · rw [b2i_0 h]; simp [h]
theorem b2i_e0 {p : Prop} : (b2i p = 0) = ¬ p := by
  rcases Classical.em p with h | h
  · rw [b2i_1 h]; simp [h]
  · rw [b2i_0 h]; simp [h]
theorem b2i_c {p q : Prop} (h : p ↔ q) : b2i p = b2i q := by rw [propext h]
theorem b2i_or (p : Prop) : b2i p = 0 ∨ b2i p = 1 := by
  rcases Classical.em p with h | h
  · exact Or.inr (b2i_1 h)
  · exact Or.inl (b2i_0 h)
theorem b2i_gd {p : Prop} {K : Prop} (h : K) : mj_gd (decide (b2i p = 0) || decide (b2i p = 1)) K := gd_pos (by rcases b2i_or p with q | q <;> simp [q]) h
/-- boats as they are seen: attribute, boat -/
abbrev Vw : Type := Nat → Nat → Int32
def vF (n : Nat) (I : Nat → Nat → Int32) (f : Nat) : Vw := fun k b => if b < n then (if k < 8 then I (f + 1 + k) b else 0) else 0
def mC (k : Nat) : Nat := match k with
  | 3 => 105
  | 4 => 105
  | _ => 106
def mO (k : Nat) : Nat := match k with
  | 1 => 1
  | 2 => 2
  | 3 => 3
  | 4 => 4
  | 5 => 3
  | 6 => 4
  | 7 => 5
  | _ => 0
def vM (n : Nat) (I : Nat → Nat → Int32) : Vw := fun k b => if b < n then (if k < 8 then I (mC k) (6 * b + mO k) else 0) else 0
theorem vF_at {n f b : Nat} {I : Nat → Nat → Int32} (k : Nat) (hb : b < n) (hk : k < 8) : vF n I f k b = I (f + 1 + k) b := by simp [vF, hb, hk]
theorem vM_at {n b : Nat} {I : Nat → Nat → Int32} (k : Nat) (hb : b < n) (hk : k < 8) : vM n I k b = I (mC k) (6 * b + mO k) := by simp [vM, hb, hk]
def nF (I : Nat → Nat → Int32) (f : Nat) : Nat := (I f 8).toNatClampNeg
def nM (I : Nat → Nat → Int32) : Nat := (I 91 22).toNatClampNeg
def VF (I : Nat → Nat → Int32) (f : Nat) : Vw := vF (nF I f) I f
def VM (I : Nat → Nat → Int32) : Vw := vM (nM I) I
/-- how many, as a number -/
def okF (I : Nat → Nat → Int32) (f : Nat) : Prop := I f 8 = nI (nF I f) ∧ nF I f ≤ 8
def okM (I : Nat → Nat → Int32) : Prop := I 91 22 = nI (nM I) ∧ nM I ≤ 8
theorem VF_at {f b : Nat} {I : Nat → Nat → Int32} (k : Nat) (hb : b < nF I f) (hk : k < 8) : VF I f k b = I (f + 1 + k) b := vF_at k hb hk
theorem VM_at {b : Nat} {I : Nat → Nat → Int32} (k : Nat) (hb : b < nM I) (hk : k < 8) : VM I k b = I (mC k) (6 * b + mO k) := vM_at k hb hk
theorem VF_0 {f b : Nat} {I : Nat → Nat → Int32} (hb : b < nF I f) : VF I f 0 b = I (f + 1) b := by simp [VF, vF, hb]
theorem VF_1 {f b : Nat} {I : Nat → Nat → Int32} (hb : b < nF I f) : VF I f 1 b = I (f + 2) b := by simp [VF, vF, hb]
theorem VF_2 {f b : Nat} {I : Nat → Nat → Int32} (hb : b < nF I f) : VF I f 2 b = I (f + 3) b := by simp [VF, vF, hb]
theorem VF_3 {f b : Nat} {I : Nat → Nat → Int32} (hb : b < nF I f) : VF I f 3 b = I (f + 4) b := by simp [VF, vF, hb]
theorem VF_4 {f b : Nat} {I : Nat → Nat → Int32} (hb : b < nF I f) : VF I f 4 b = I (f + 5) b := by simp [VF, vF, hb]
theorem VF_5 {f b : Nat} {I : Nat → Nat → Int32} (hb : b < nF I f) : VF I f 5 b = I (f + 6) b := by simp [VF, vF, hb]
theorem VF_6 {f b : Nat} {I : Nat → Nat → Int32} (hb : b < nF I f) : VF I f 6 b = I (f + 7) b := by simp [VF, vF, hb]
theorem VF_7 {f b : Nat} {I : Nat → Nat → Int32} (hb : b < nF I f) : VF I f 7 b = I (f + 8) b := by simp [VF, vF, hb]
theorem VM_0 {b : Nat} {I : Nat → Nat → Int32} (hb : b < nM I) : VM I 0 b = I 106 (6 * b) := by simp [VM, vM, hb, mC, mO]
theorem VM_1 {b : Nat} {I : Nat → Nat → Int32} (hb : b < nM I) : VM I 1 b = I 106 (6 * b + 1) := by simp [VM, vM, hb, mC, mO]
theorem VM_2 {b : Nat} {I : Nat → Nat → Int32} (hb : b < nM I) : VM I 2 b = I 106 (6 * b + 2) := by simp [VM, vM, hb, mC, mO]
theorem VM_3 {b : Nat} {I : Nat → Nat → Int32} (hb : b < nM I) : VM I 3 b = I 105 (6 * b + 3) := by simp [VM, vM, hb, mC, mO]
theorem VM_4 {b : Nat} {I : Nat → Nat → Int32} (hb : b < nM I) : VM I 4 b = I 105 (6 * b + 4) := by simp [VM, vM, hb, mC, mO]
theorem VM_5 {b : Nat} {I : Nat → Nat → Int32} (hb : b < nM I) : VM I 5 b = I 106 (6 * b + 3) := by simp [VM, vM, hb, mC, mO]
theorem VM_6 {b : Nat} {I : Nat → Nat → Int32} (hb : b < nM I) : VM I 6 b = I 106 (6 * b + 4) := by simp [VM, vM, hb, mC, mO]
theorem VM_7 {b : Nat} {I : Nat → Nat → Int32} (hb : b < nM I) : VM I 7 b = I 106 (6 * b + 5) := by simp [VM, vM, hb, mC, mO]
def isB (n : Nat) (b : Int32) : Prop := b = nI b.toNatClampNeg ∧ b.toNatClampNeg < n
theorem isB_nI {n i : Nat} (h : i < n) (hn : n ≤ 8) : isB n (nI i) := by
  unfold isB
  rw [jn_cl (by omega)]
  exact ⟨rfl, h⟩
/-- a loop that answers whether there is one -/
theorem lp_any {n : Nat} {G : Nat → Prop} {Ψ : Int32 → Prop} (p : Nat → Prop) (step : ∀ i, i < n → (p i → Ψ 1) → (¬ p i → G (i + 1)) → G i) (fin : Ψ 0 → G n) (h : Ψ (b2i (∃ i, i < n ∧ p i))) : G 0 :=
  lp_find (A := Ψ 1) (B := Ψ 0) p step fin (fun he => by rwa [b2i_1 he] at h) (fun he => by rwa [b2i_0 he] at h) n 0 (by omega) (fun j hj => absurd hj (Nat.not_lt_zero j))
/-- how many there are below n -/
noncomputable def cnt (p : Nat → Prop) : Nat → Nat
  | 0 => 0
  | n + 1 => cnt p n + @ite Nat (p n) (Classical.propDecidable _) 1 0
theorem cnt_y {p : Nat → Prop} {n : Nat} (h : p n) : cnt p (n + 1) = cnt p n + 1 := by
  rw [cnt, @if_pos (p n) (Classical.propDecidable _) h]
theorem cnt_n {p : Nat → Prop} {n : Nat} (h : ¬ p n) : cnt p (n + 1) = cnt p n := by
  rw [cnt, @if_neg (p n) (Classical.propDecidable _) h]; rfl
theorem cnt_le (p : Nat → Prop) (n : Nat) : cnt p n ≤ n := by
  induction n with
  | zero => exact Nat.le_refl _
  | succ n ih =>
    rcases Classical.em (p n) with h | h
    · rw [cnt_y h]; omega
    · rw [cnt_n h]; omega
theorem cnt_c {p q : Nat → Prop} {n : Nat} (h : ∀ i, i < n → (p i ↔ q i)) : cnt p n = cnt q n := by
  induction n with
  | zero => rfl
  | succ n ih =>
    have := ih (fun i hi => h i (by omega))
    rcases Classical.em (p n) with k | k
    · rw [cnt_y k, cnt_y ((h n (by omega)).mp k), this]
    · rw [cnt_n k, cnt_n (fun q => k ((h n (by omega)).mpr q)), this]
/-- a loop that counts -/
theorem lp_cnt {n : Nat} {G : Nat → Nat → Prop} (p : Nat → Prop) (step : ∀ i s, i < n → s ≤ i → (p i → G (i + 1) (s + 1)) → (¬ p i → G (i + 1) s) → G i s) (fin : G n (cnt p n)) : G 0 0 := by
  have := lp_inv (σ := Nat) (n := n) (G := G) (fun i s => s = cnt p i) (fun i s hi hs hk => step i s hi (by rw [hs]; exact cnt_le p i) (fun q => hk _ (by rw [cnt_y q, hs])) (fun q => hk _ (by rw [cnt_n q, hs]))) (fun s hs => by rw [hs]; exact fin) n 0 0 (by omega) rfl
  exact this
def held (n : Nat) (F : Vw) (x y : Int32) : Prop := ∃ i, i < n ∧ F 0 i = x ∧ F 1 i = y
def besd (F : Vw) (b i : Nat) : Prop := ¬ F 0 b - F 0 i < -1 ∧ ¬ 1 < F 0 b - F 0 i
def shad (n : Nat) (F : Vw) (b : Nat) : Prop := ∃ i, i < n ∧ ¬ F 1 b - F 1 i < 1 ∧ ¬ 3 < F 1 b - F 1 i ∧ besd F b i
noncomputable def nbs (n : Nat) (F : Vw) (b : Nat) : Nat := cnt (fun i => ¬ i = b ∧ besd F b i) n
/-- columns are small -/
def colB (n : Nat) (F : Vw) : Prop := ∀ b, b < n → 0 ≤ (F 0 b).toInt ∧ (F 0 b).toInt < 20
theorem abs_sm {x y : Int32} (hx : 0 ≤ x.toInt ∧ x.toInt < 20) (hy : 0 ≤ y.toInt ∧ y.toInt < 20) : (1 < (if (0 : Int32) ≤ x - y then x - y else 0 - (x - y))) = ¬ (¬ y - x < -1 ∧ ¬ 1 < y - x) := by
  have e1 : (x - y).toInt = x.toInt - y.toInt := by rw [Int32.toInt_sub]; exact Int.bmod_eq_of_le (by omega) (by omega)
  have e2 : (y - x).toInt = y.toInt - x.toInt := by rw [Int32.toInt_sub]; exact Int.bmod_eq_of_le (by omega) (by omega)
  have e3 : (0 - (x - y)).toInt = y.toInt - x.toInt := by rw [Int32.toInt_sub, e1]; rw [Int.bmod_eq_of_le] <;> simp <;> omega
  have l1 : (1 : Int32).toInt = 1 := rfl
  have l0 : (0 : Int32).toInt = 0 := rfl
  have lm : (-1 : Int32).toInt = -1 := rfl
  split
  · rename_i h
    rw [Int32.le_iff_toInt_le, e1, l0] at h
    simp only [Int32.lt_iff_toInt_lt, e1, e2, l1, lm, eq_iff_iff]
    omega
  · rename_i h
    rw [Int32.le_iff_toInt_le, e1, l0] at h
    simp only [Int32.lt_iff_toInt_lt, e3, e2, l1, lm, eq_iff_iff]
    omega
/-- the boats' rows and lines that seconds pass over -/
def isF3 (f : Nat) : Prop := f = 39 ∨ f = 48 ∨ f = 57
def isC2 (c : Nat) : Prop := c = 26 ∨ c = 28
def isCF (c f : Nat) : Prop := (c = 26 ∧ f = 39) ∨ (c = 26 ∧ f = 48) ∨ (c = 26 ∧ f = 57) ∨ (c = 28 ∧ f = 48)
theorem isCF_f {c f : Nat} (h : isCF c f) : isF3 f := by unfold isCF at h; unfold isF3; omega
theorem isCF_c {c f : Nat} (h : isCF c f) : isC2 c := by unfold isCF at h; unfold isC2; omega
theorem isF3_b {f : Nat} (h : isF3 f) : 39 ≤ f ∧ f ≤ 57 := by unfold isF3 at h; omega
theorem isC2_b {c : Nat} (h : isC2 c) : 26 ≤ c ∧ c ≤ 28 := by unfold isC2 at h; omega
end
section
/-! ===== the law's start: the tables' numbers, the constants ===== -/
def mj_At (p : Program) (s : State) (m : MethodId) (meth : Method) (c : Code) (b L : Nat) (xs : Nat → Int32) : Prop :=
  p.tables.exec = Jvm.exec ∧ c.code = code ∧ meth.sig.returnType = ret ∧ c.maxLocals = 7 ∧ s.vm.findClass RL = some m.cls ∧ (∀ w ∈ lw_tbl, w.before #[Value.ref b] s = true) ∧ va_X b L xs s s.heap ∧ b < s.heap.size ∧ meth.locks = false ∧ (Jvm.Cond.and given_1 narrow_1).before #[Value.ref b] s = true
def mj_nwB (w : Cond) : Bool := decide (w ∈ flatC (Jvm.Cond.and given_1 narrow_1))
theorem mj_nwI {b : Nat} {s : State} (h : (Jvm.Cond.and given_1 narrow_1).before #[Value.ref b] s = true) {w : Cond} (hw : mj_nwB w = true) : w.before #[Value.ref b] s = true := flat_of_before _ h w (of_decide_eq_true hw)
def mj_kst (k : Nat) : Term := .static RX10 ((mj_kI[k]?).map (fun q => q.1) |>.getD "") "[I"
def mj_kvs (k : Nat) : List Int32 := ((mj_kI[k]?).map (fun q => q.2.2)).getD []
def mj_kok (k : Nat) : Bool := mj_nwB (.arrayOf (mj_kst k) .int) && mj_nwB (.eq (.length (mj_kst k)) (.int (Int32.ofNat (mj_kvs k).length))) && (List.range (mj_kvs k).length).all (fun j => mj_nwB (.eq (.elem (mj_kst k) (.int (Int32.ofNat j))) (.int ((mj_kvs k).getD j 0)))) && decide (Cond.laysStatic RX10 ((mj_kI[k]?).map (fun q => q.1) |>.getD "") "[I" ∈ lw_tbl)
set_option maxRecDepth 100000 in
theorem mj_kokT : (List.range 6).all mj_kok = true := by decide +kernel
def mj_sst (k : Nat) : Term := match mj_kS[k]? with
  | some q => .string (mj_own.getD q.1 "") q.2.1
  | none => .int 0
def mj_svs (k : Nat) : List Int32 := ((mj_kS[k]?).map (fun q => q.2.2.2)).getD []
def mj_sok (k : Nat) : Bool := mj_nwB (.exactly (mj_sst k) "java/lang/String") && mj_nwB (.eq (.field (mj_sst k) "java/lang/String" "coder" "B") (.int 0)) && mj_nwB (.arrayOf (.field (mj_sst k) "java/lang/String" "value" "[B") .byte) && mj_nwB (.eq (.length (.field (mj_sst k) "java/lang/String" "value" "[B")) (.int (Int32.ofNat (mj_svs k).length))) && (List.range (mj_svs k).length).all (fun j => mj_nwB (.eq (.elem (.field (mj_sst k) "java/lang/String" "value" "[B") (.int (Int32.ofNat j))) (.int ((mj_svs k).getD j 0)))) && (match mj_kS[k]? with
  | some q => decide (Cond.stringRef (mj_own.getD q.1 "") q.2.1 q.2.2.1 ∈ lw_tbl)
  | none => false)
set_option maxRecDepth 100000 in
theorem mj_sokT : (List.range 3).all mj_sok = true := by decide +kernel
set_option maxRecDepth 100000 in
theorem mj_compT : (mj_nwB (.eq (.static "java/lang/String" "COMPACT_STRINGS" "Z") (.int 1)) && decide (Cond.laysStatic "java/lang/String" "COMPACT_STRINGS" "Z" ∈ lw_tbl) && decide (Cond.initialized "java/lang/String" ∈ lw_tbl) && decide (Cond.initialized RX10 ∈ lw_tbl) && decide (Cond.arrayClass .int ∈ lw_tbl) && decide (Cond.arrayClass .boolean ∈ lw_tbl) && decide (Cond.arrayClass .long ∈ lw_tbl) && decide (Cond.arrayOver (.array .int) ∈ lw_tbl) && mj_nwB (.isRef (.static Bundle.tN "UNASSIGNED_STACK" Bundle.steD)) && mj_nwB (.isRef (.static Bundle.tN "SUPPRESSED_SENTINEL" Bundle.listD)) && decide (Cond.laysStatic Bundle.tN "UNASSIGNED_STACK" Bundle.steD ∈ lw_tbl) && decide (Cond.laysStatic Bundle.tN "SUPPRESSED_SENTINEL" Bundle.listD ∈ lw_tbl) && decide (Cond.initialized Bundle.tN ∈ lw_tbl)) = true := by decide +kernel
set_option maxRecDepth 100000 in
theorem mj_instT : (List.range 13).all (fun ci => match vwCl[ci]? with
  | some q => decide (Cond.instantiable q.1 q.2.2 ∈ lw_tbl)
  | none => false) = true := by decide +kernel
theorem mj_arrK {s : State} {args : Array Value} {ty : FieldType} (h : (Cond.arrayClass ty).before args s = true) (hty : ∀ C, ty ≠ .object C) : ∃ cA, ArrOfT s cA ty ∧ va_RA s cA ty := by
  obtain ⟨cA, kA, comp, hfind, hk, hkind⟩ := Cond.arrayClass_spec h
  refine ⟨cA, fun n z => ⟨fun k h => (by cases h), kA, hk, comp, hkind⟩, ?_⟩
  cases ty with
  | object C => exact absurd rfl (hty C)
  | _ => exact hfind
theorem mj_arrO {s : State} {args : Array Value} (h : (Cond.arrayOver (.array .int)).before args s = true) : ∃ cA, ArrOfT s cA (.array .int) ∧ va_RA s cA (.array .int) := by
  have h' := h
  simp only [Cond.before, Cond.holds, Cond.value, beq_iff_eq] at h'
  cases hc : s.vm.findClass (FieldType.array .int).toString with
  | none => simp [hc] at h'
  | some comp =>
    simp only [hc, Option.bind_some, Option.bind_eq_some_iff, Option.map_eq_some_iff] at h'
    obtain ⟨c, hi, k, hk, hb⟩ := h'
    cases hkind : k.kind with
    | array component ty =>
      rw [hkind] at hb
      simp at hb
      refine ⟨c, fun n z => ⟨fun k h => (by cases h), k, hk, component, by rw [hkind, hb.1]⟩, hb.2⟩
    | _ => rw [hkind] at hb; simp at hb
set_option maxHeartbeats 4000000 in
theorem mj_setup {p : Program} {s : State} {m : MethodId} {meth : Method} {c : Code} {b L : Nat} {xs : Nat → Int32} (C0 : mj_At p s m meth c b L xs) : ∃ Ω : mj_Om, Ω.2.2.1 = s.heap.size ∧ Ω.2.2.2 2000 = b ∧ mj_F Ω p s m #[Value.ref b] meth c 13 false code 7 (some .boolean) := by
  obtain ⟨hx, hb, hr, hml, hown, hts, hX, hbl, hlocks, hgv⟩ := C0
  have hA : ∀ a : Nat, a < s.heap.size → ¬ (fun q : Nat => s.heap.size ≤ q) a := fun a h q => by omega
  have hG : ∀ w ∈ mj_GW, w.before #[Value.ref b] s = true := fun w hw => hts w (List.mem_filter.mp hw).1
  have hT := mj_compT
  simp only [Bool.and_eq_true, decide_eq_true_eq] at hT
  obtain ⟨⟨⟨⟨⟨⟨⟨⟨⟨⟨⟨⟨t1, t2⟩, t3⟩, t4⟩, t5⟩, t6⟩, t7⟩, t8⟩, t9⟩, t10⟩, t11⟩, t12⟩, t13⟩ := hT
  -- classes
  have hcl : ∀ ci : Nat, ∃ (q : ClassId × (Nat → Nat)), ∀ r, vwCl[ci]? = some r → u_Kn s r.1 r.2.1 r.2.2 q.1 q.2 := by
    intro ci
    cases hq : vwCl[ci]? with
    | none => exact ⟨(0, fun _ => 0), fun r h => (by cases h)⟩
    | some r =>
      have hlt : ci < 13 := (List.getElem?_eq_some_iff.mp hq).1
      have h1 := List.all_eq_true.mp mj_instT ci (List.mem_range.mpr hlt)
      rw [hq] at h1
      obtain ⟨cC, iS, hK⟩ := u_known (C := r.1) (T := r.2.1) (N := r.2.2) (n := r.2.2) hG (mj_cls hq).1 (hts _ (of_decide_eq_true h1))
      exact ⟨(cC, iS), fun r' h => by cases h; exact hK⟩
  obtain ⟨D, hD⟩ := Classical.axiomOfChoice hcl
  obtain ⟨c0, a0, a0'⟩ := mj_arrK (hts _ t5) (fun C h => by cases h)
  obtain ⟨c1, a1, a1'⟩ := mj_arrK (hts _ t6) (fun C h => by cases h)
  obtain ⟨c2, a2, a2'⟩ := mj_arrK (hts _ t7) (fun C h => by cases h)
  obtain ⟨c3, a3, a3'⟩ := mj_arrO (hts _ t8)
  -- static arrays
  have hst : ∀ k : Nat, ∃ t : Nat, k < 6 → (mj_kst k).eval #[Value.ref b] s none [] s = some (.ref t) ∧ va_T .int t (mj_kvs k).length (fun j => .int ((mj_kvs k).getD j 0)) (fun q => s.heap.size ≤ q) s s.heap := by
    intro k
    by_cases hk : k < 6
    · have h1 := List.all_eq_true.mp mj_kokT k (List.mem_range.mpr hk)
      simp only [mj_kok, Bool.and_eq_true, List.all_eq_true, List.mem_range] at h1
      obtain ⟨⟨⟨h2, h3⟩, h4⟩, h5⟩ := h1
      have hle : (mj_kvs k).length < 2 ^ 31 := by
        have : ∀ k, k < 6 → (mj_kvs k).length < 2 ^ 31 := by decide
        exact this k hk
      obtain ⟨t, g1, g2⟩ := va_Tof (f := fun j => .int ((mj_kvs k).getD j 0)) (A := fun q => s.heap.size ≤ q) hle (mj_nwI hgv h2) (va_eqt (mj_nwI hgv h3)) (fun j hj => va_eqt (mj_nwI hgv (h4 j hj))) hA
      exact ⟨t, fun _ => ⟨g1, g2⟩⟩
    · exact ⟨0, fun h => absurd h hk⟩
  obtain ⟨kt, hkt⟩ := Classical.axiomOfChoice hst
  -- texts
  have hss : ∀ k : Nat, ∃ q : Nat × Nat, k < 3 → (mj_sst k).eval #[Value.ref b] s none [] s = some (.ref q.1) ∧ va_O "java/lang/String" q.1 (fun q => s.heap.size ≤ q) s s.heap ∧ va_OF "java/lang/String" "coder" "B" (.int 0) q.1 (fun q => s.heap.size ≤ q) s s.heap ∧ va_OF "java/lang/String" "value" "[B" (.ref q.2) q.1 (fun q => s.heap.size ≤ q) s s.heap ∧ va_T .byte q.2 (mj_svs k).length (fun j => .int ((mj_svs k).getD j 0)) (fun q => s.heap.size ≤ q) s s.heap := by
    intro k
    by_cases hk : k < 3
    · have h1 := List.all_eq_true.mp mj_sokT k (List.mem_range.mpr hk)
      simp only [mj_sok, Bool.and_eq_true, List.all_eq_true, List.mem_range] at h1
      obtain ⟨⟨⟨⟨⟨h2, h3⟩, h4⟩, h5⟩, h6⟩, -⟩ := h1
      have hle : (mj_svs k).length < 2 ^ 31 := by
        have : ∀ k, k < 3 → (mj_svs k).length < 2 ^ 31 := by decide
        exact this k hk
      obtain ⟨adK, adV, hS, hev⟩ := vk_Sof (N := 1) (tm := fun _ => mj_sst k) (len := [(mj_svs k).length]) (byt := [mj_svs k]) (A := fun q => s.heap.size ≤ q) (fun i hi => by rw [show i = 0 by omega]; exact hle) (fun i hi => mj_nwI hgv h2) (fun i hi => mj_nwI hgv h3) (fun i hi => mj_nwI hgv h4) (fun i hi => by rw [show i = 0 by omega]; exact mj_nwI hgv h5) (fun i hi j hj => by
        rw [show i = 0 by omega] at hj ⊢
        exact mj_nwI hgv (h6 j hj)) (fun i j hi hj hne => absurd (show i = j by omega) hne) hA
      exact ⟨(adK 0, adV 0), fun _ => ⟨hev 0 (by omega), hS.1 0 (by omega)⟩⟩
    · exact ⟨(0, 0), fun h => absurd h hk⟩
  obtain ⟨kss, hkss⟩ := Classical.axiomOfChoice hss
  refine ⟨((fun ci => (D ci).1, fun ci => (D ci).2), (fun t => if t = 0 then c0 else if t = 1 then c1 else if t = 2 then c2 else c3), s.heap.size, fun q => if q < 1010 then kt (q - 1000) else if q < 1020 then (kss (q - 1010)).1 else if q < 2000 then (kss (q - 1020)).2 else b), rfl, by simp, hx, hb, hml, hown, hG, hr, hlocks, ⟨fun ci q hq => hD ci q hq, ?_⟩, fun h => (by cases h), Nat.le_refl _, ?_, ?_, ?_⟩
  · intro k q hq
    match k, hq with
    | 0, hq => cases hq; exact ⟨a0, a0'⟩
    | 1, hq => cases hq; exact ⟨a1, a1'⟩
    | 2, hq => cases hq; exact ⟨a2, a2'⟩
    | 3, hq => cases hq; exact ⟨a3, a3'⟩
    | k + 4, hq => simp [mj_ty] at hq
  · intro w hw
    have h1 := hts w (List.mem_filter.mp hw).1
    have h2 := (List.mem_filter.mp hw).2
    cases w <;> first | (simp [mj_isN] at h2; done) | exact va_Nw.of rfl h1 | exact h1
  · refine ⟨fun k q hq => ?_, ⟨va_Zof (hts _ t2) (hts _ t3) (va_eqi (mj_nwI hgv t1)) hA, vx_Zqof (hts _ t11) (hts _ t13) (mj_nwI hgv t9) hA, vx_Zqof (hts _ t12) (hts _ t13) (mj_nwI hgv t10) hA⟩, fun k q hq => ?_⟩
    · have hk : k < 6 := (List.getElem?_eq_some_iff.mp hq).1
      obtain ⟨g1, g2⟩ := hkt k hk
      have h1 := List.all_eq_true.mp mj_kokT k (List.mem_range.mpr hk)
      simp only [mj_kok, Bool.and_eq_true] at h1
      have hlay := of_decide_eq_true h1.2
      have e1 : mj_kvs k = q.2.2 := by simp [mj_kvs, hq]
      have e2 : mj_kst k = .static RX10 q.1 "[I" := by simp [mj_kst, hq]
      rw [e1] at g2
      rw [e2] at g1
      rw [hq] at hlay
      have e3 : (if 1000 + k < 1010 then kt (1000 + k - 1000) else if 1000 + k < 1020 then (kss (1000 + k - 1010)).1 else if 1000 + k < 2000 then (kss (1000 + k - 1020)).2 else b) = kt k := by
        rw [if_pos (by omega), show 1000 + k - 1000 = k by omega]
      simp only [e3]
      exact ⟨va_Zref (hts _ hlay) (hts _ t4) g1 hA, g2⟩
    · have hk : k < 3 := (List.getElem?_eq_some_iff.mp hq).1
      obtain ⟨-, g1, g2, g3, g4⟩ := hkss k hk
      have e1 : mj_svs k = q.2.2.2 := by simp [mj_svs, hq]
      rw [e1] at g4
      have e3 : (if 1010 + k < 1010 then kt (1010 + k - 1000) else if 1010 + k < 1020 then (kss (1010 + k - 1010)).1 else if 1010 + k < 2000 then (kss (1010 + k - 1020)).2 else b) = (kss k).1 := by
        rw [if_neg (by omega), if_pos (by omega), show 1010 + k - 1010 = k by omega]
      have e4 : (if 1020 + k < 1010 then kt (1020 + k - 1000) else if 1020 + k < 1020 then (kss (1020 + k - 1010)).1 else if 1020 + k < 2000 then (kss (1020 + k - 1020)).2 else b) = (kss k).2 := by
        rw [if_neg (by omega), if_neg (by omega), if_pos (by omega), show 1020 + k - 1020 = k by omega]
      simp only [e3, e4]
      exact ⟨g1, g2, g3, g4⟩
  · intro k q hq
    have hk : k < 3 := (List.getElem?_eq_some_iff.mp hq).1
    obtain ⟨g0, -⟩ := hkss k hk
    have h1 := List.all_eq_true.mp mj_sokT k (List.mem_range.mpr hk)
    simp only [mj_sok, Bool.and_eq_true] at h1
    have h2 := h1.2
    rw [hq] at h2
    have hsr := hts _ (of_decide_eq_true h2)
    have e2 : mj_sst k = .string (mj_own.getD q.1 "") q.2.1 := by simp [mj_sst, hq]
    rw [e2] at g0
    have e3 : (if 1010 + k < 1010 then kt (1010 + k - 1000) else if 1010 + k < 1020 then (kss (1010 + k - 1010)).1 else if 1010 + k < 2000 then (kss (1010 + k - 1020)).2 else b) = (kss k).1 := by
      rw [if_neg (by omega), if_pos (by omega), show 1010 + k - 1010 = k by omega]
    simp only [e3]
    exact vk_R.of hsr g0
end
