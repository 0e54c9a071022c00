section
-- ===== PART A: goes FIRST, ahead of the names: the tables' words, and 'selects' of the private methods out of them =====
/-- a private method of a class that the tables say can be made, by its rows of tables_1 -/
def lw_okq (q : MethodName × Nat) : Prop := (q.1.cls ≠ "java/lang/invoke/MethodHandle" ∧ q.1.cls ≠ "java/lang/invoke/VarHandle") ∧ Cond.instantiable q.1.cls q.2 ∈ tables_1 ∧ Cond.privateMethod q.1 ∈ tables_1 ∧ Cond.instanceMethod q.1 ∈ tables_1
theorem lw_p0 : lw_okq (⟨"GunLine$WaterReader", "readClause", "()Z"⟩, 5) := ⟨⟨by decide +kernel, by decide +kernel⟩, List.mem_of_getElem? (i := 78) (by decide +kernel), List.mem_of_getElem? (i := 385) (by decide +kernel), List.mem_of_getElem? (i := 386) (by decide +kernel)⟩
theorem lw_p1 : lw_okq (⟨"GunLine$WaterReader", "readLine", "()Z"⟩, 5) := ⟨⟨by decide +kernel, by decide +kernel⟩, List.mem_of_getElem? (i := 78) (by decide +kernel), List.mem_of_getElem? (i := 402) (by decide +kernel), List.mem_of_getElem? (i := 403) (by decide +kernel)⟩
theorem lw_p2 : lw_okq (⟨"GunLine$WaterReader", "readItems", "(Ljava/lang/String;[I[I[I)Z"⟩, 5) := ⟨⟨by decide +kernel, by decide +kernel⟩, List.mem_of_getElem? (i := 78) (by decide +kernel), List.mem_of_getElem? (i := 413) (by decide +kernel), List.mem_of_getElem? (i := 414) (by decide +kernel)⟩
theorem lw_p3 : lw_okq (⟨"GunLine$WaterReader", "readBoat", "()Z"⟩, 5) := ⟨⟨by decide +kernel, by decide +kernel⟩, List.mem_of_getElem? (i := 78) (by decide +kernel), List.mem_of_getElem? (i := 517) (by decide +kernel), List.mem_of_getElem? (i := 518) (by decide +kernel)⟩
theorem lw_p4 : lw_okq (⟨"GunLine$WaterReader", "fits", "()Z"⟩, 5) := ⟨⟨by decide +kernel, by decide +kernel⟩, List.mem_of_getElem? (i := 78) (by decide +kernel), List.mem_of_getElem? (i := 532) (by decide +kernel), List.mem_of_getElem? (i := 533) (by decide +kernel)⟩
theorem lw_p5 : lw_okq (⟨"GunLine$RuleReader", "readClause", "()Z"⟩, 3) := ⟨⟨by decide +kernel, by decide +kernel⟩, List.mem_of_getElem? (i := 181) (by decide +kernel), List.mem_of_getElem? (i := 545) (by decide +kernel), List.mem_of_getElem? (i := 546) (by decide +kernel)⟩
theorem lw_p6 : lw_okq (⟨"GunLine$RuleReader", "readCondition", "(IZ)Z"⟩, 3) := ⟨⟨by decide +kernel, by decide +kernel⟩, List.mem_of_getElem? (i := 181) (by decide +kernel), List.mem_of_getElem? (i := 551) (by decide +kernel), List.mem_of_getElem? (i := 552) (by decide +kernel)⟩
theorem lw_p7 : lw_okq (⟨"GunLine$RuleReader", "readTruth", "(IZ)Z"⟩, 3) := ⟨⟨by decide +kernel, by decide +kernel⟩, List.mem_of_getElem? (i := 181) (by decide +kernel), List.mem_of_getElem? (i := 555) (by decide +kernel), List.mem_of_getElem? (i := 556) (by decide +kernel)⟩
theorem lw_p8 : lw_okq (⟨"GunLine$RuleReader", "readUnit", "(IZ)Z"⟩, 3) := ⟨⟨by decide +kernel, by decide +kernel⟩, List.mem_of_getElem? (i := 181) (by decide +kernel), List.mem_of_getElem? (i := 559) (by decide +kernel), List.mem_of_getElem? (i := 560) (by decide +kernel)⟩
theorem lw_p9 : lw_okq (⟨"GunLine$RuleReader", "emit", "(I)V"⟩, 3) := ⟨⟨by decide +kernel, by decide +kernel⟩, List.mem_of_getElem? (i := 181) (by decide +kernel), List.mem_of_getElem? (i := 563) (by decide +kernel), List.mem_of_getElem? (i := 564) (by decide +kernel)⟩
theorem lw_p10 : lw_okq (⟨"GunLine$RuleReader", "readSum", "(I)Z"⟩, 3) := ⟨⟨by decide +kernel, by decide +kernel⟩, List.mem_of_getElem? (i := 181) (by decide +kernel), List.mem_of_getElem? (i := 567) (by decide +kernel), List.mem_of_getElem? (i := 568) (by decide +kernel)⟩
theorem lw_p11 : lw_okq (⟨"GunLine$RuleReader", "readTerm", "(I)Z"⟩, 3) := ⟨⟨by decide +kernel, by decide +kernel⟩, List.mem_of_getElem? (i := 181) (by decide +kernel), List.mem_of_getElem? (i := 571) (by decide +kernel), List.mem_of_getElem? (i := 572) (by decide +kernel)⟩
theorem lw_p12 : lw_okq (⟨"GunLine$RuleReader", "readAtom", "(I)Z"⟩, 3) := ⟨⟨by decide +kernel, by decide +kernel⟩, List.mem_of_getElem? (i := 181) (by decide +kernel), List.mem_of_getElem? (i := 575) (by decide +kernel), List.mem_of_getElem? (i := 576) (by decide +kernel)⟩
theorem lw_p13 : lw_okq (⟨"GunLine$RuleReader", "readAnswer", "()Z"⟩, 3) := ⟨⟨by decide +kernel, by decide +kernel⟩, List.mem_of_getElem? (i := 181) (by decide +kernel), List.mem_of_getElem? (i := 585) (by decide +kernel), List.mem_of_getElem? (i := 586) (by decide +kernel)⟩
theorem lw_p14 : lw_okq (⟨"GunLine", "takeWater", "()I"⟩, 18) := ⟨⟨by decide +kernel, by decide +kernel⟩, List.mem_of_getElem? (i := 27) (by decide +kernel), List.mem_of_getElem? (i := 594) (by decide +kernel), List.mem_of_getElem? (i := 595) (by decide +kernel)⟩
theorem lw_p15 : lw_okq (⟨"GunLine", "takeRule", "()I"⟩, 18) := ⟨⟨by decide +kernel, by decide +kernel⟩, List.mem_of_getElem? (i := 27) (by decide +kernel), List.mem_of_getElem? (i := 615) (by decide +kernel), List.mem_of_getElem? (i := 616) (by decide +kernel)⟩
def lw_privs_1 : List (MethodName × Nat) := [(⟨"GunLine$WaterReader", "readClause", "()Z"⟩, 5), (⟨"GunLine$WaterReader", "readLine", "()Z"⟩, 5), (⟨"GunLine$WaterReader", "readItems", "(Ljava/lang/String;[I[I[I)Z"⟩, 5), (⟨"GunLine$WaterReader", "readBoat", "()Z"⟩, 5), (⟨"GunLine$WaterReader", "fits", "()Z"⟩, 5), (⟨"GunLine$RuleReader", "readClause", "()Z"⟩, 3), (⟨"GunLine$RuleReader", "readCondition", "(IZ)Z"⟩, 3), (⟨"GunLine$RuleReader", "readTruth", "(IZ)Z"⟩, 3), (⟨"GunLine$RuleReader", "readUnit", "(IZ)Z"⟩, 3), (⟨"GunLine$RuleReader", "emit", "(I)V"⟩, 3), (⟨"GunLine$RuleReader", "readSum", "(I)Z"⟩, 3), (⟨"GunLine$RuleReader", "readTerm", "(I)Z"⟩, 3), (⟨"GunLine$RuleReader", "readAtom", "(I)Z"⟩, 3), (⟨"GunLine$RuleReader", "readAnswer", "()Z"⟩, 3), (⟨"GunLine", "takeWater", "()I"⟩, 18), (⟨"GunLine", "takeRule", "()I"⟩, 18)]
theorem lw_r1 : ∀ q ∈ lw_privs_1, lw_okq q := List.forall_mem_cons.mpr ⟨lw_p0, List.forall_mem_cons.mpr ⟨lw_p1, List.forall_mem_cons.mpr ⟨lw_p2, List.forall_mem_cons.mpr ⟨lw_p3, List.forall_mem_cons.mpr ⟨lw_p4, List.forall_mem_cons.mpr ⟨lw_p5, List.forall_mem_cons.mpr ⟨lw_p6, List.forall_mem_cons.mpr ⟨lw_p7, List.forall_mem_cons.mpr ⟨lw_p8, List.forall_mem_cons.mpr ⟨lw_p9, List.forall_mem_cons.mpr ⟨lw_p10, List.forall_mem_cons.mpr ⟨lw_p11, List.forall_mem_cons.mpr ⟨lw_p12, List.forall_mem_cons.mpr ⟨lw_p13, List.forall_mem_cons.mpr ⟨lw_p14, List.forall_mem_cons.mpr ⟨lw_p15, fun _ h => absurd h List.not_mem_nil⟩⟩⟩⟩⟩⟩⟩⟩⟩⟩⟩⟩⟩⟩⟩⟩
theorem lw_p16 : lw_okq (⟨"GunLine", "hasWater", "()Z"⟩, 18) := ⟨⟨by decide +kernel, by decide +kernel⟩, List.mem_of_getElem? (i := 27) (by decide +kernel), List.mem_of_getElem? (i := 628) (by decide +kernel), List.mem_of_getElem? (i := 629) (by decide +kernel)⟩
theorem lw_p17 : lw_okq (⟨"GunLine", "isBoat", "(I)Z"⟩, 18) := ⟨⟨by decide +kernel, by decide +kernel⟩, List.mem_of_getElem? (i := 27) (by decide +kernel), List.mem_of_getElem? (i := 636) (by decide +kernel), List.mem_of_getElem? (i := 637) (by decide +kernel)⟩
theorem lw_p18 : lw_okq (⟨"GunLine", "canPass", "(I)Z"⟩, 18) := ⟨⟨by decide +kernel, by decide +kernel⟩, List.mem_of_getElem? (i := 27) (by decide +kernel), List.mem_of_getElem? (i := 673) (by decide +kernel), List.mem_of_getElem? (i := 674) (by decide +kernel)⟩
theorem lw_p19 : lw_okq (⟨"GunLine$Mover", "look", "(LGunLine$Fleet;)V"⟩, 4) := ⟨⟨by decide +kernel, by decide +kernel⟩, List.mem_of_getElem? (i := 203) (by decide +kernel), List.mem_of_getElem? (i := 685) (by decide +kernel), List.mem_of_getElem? (i := 686) (by decide +kernel)⟩
theorem lw_p20 : lw_okq (⟨"GunLine$Fleet", "isBeside", "(II)Z"⟩, 10) := ⟨⟨by decide +kernel, by decide +kernel⟩, List.mem_of_getElem? (i := 97) (by decide +kernel), List.mem_of_getElem? (i := 693) (by decide +kernel), List.mem_of_getElem? (i := 694) (by decide +kernel)⟩
theorem lw_p21 : lw_okq (⟨"GunLine$Mover", "askRules", "(LGunLine$Course;LGunLine$Fleet;I)V"⟩, 4) := ⟨⟨by decide +kernel, by decide +kernel⟩, List.mem_of_getElem? (i := 203) (by decide +kernel), List.mem_of_getElem? (i := 697) (by decide +kernel), List.mem_of_getElem? (i := 698) (by decide +kernel)⟩
theorem lw_p22 : lw_okq (⟨"GunLine$Mover", "moveAll", "(LGunLine$Course;LGunLine$Fleet;)V"⟩, 4) := ⟨⟨by decide +kernel, by decide +kernel⟩, List.mem_of_getElem? (i := 203) (by decide +kernel), List.mem_of_getElem? (i := 745) (by decide +kernel), List.mem_of_getElem? (i := 746) (by decide +kernel)⟩
theorem lw_p23 : lw_okq (⟨"GunLine$Mover", "sail", "(LGunLine$Fleet;I)V"⟩, 4) := ⟨⟨by decide +kernel, by decide +kernel⟩, List.mem_of_getElem? (i := 203) (by decide +kernel), List.mem_of_getElem? (i := 749) (by decide +kernel), List.mem_of_getElem? (i := 750) (by decide +kernel)⟩
theorem lw_p24 : lw_okq (⟨"GunLine$Mover", "drawGusts", "(LGunLine$Fleet;LGunLine$Draws;I)V"⟩, 4) := ⟨⟨by decide +kernel, by decide +kernel⟩, List.mem_of_getElem? (i := 203) (by decide +kernel), List.mem_of_getElem? (i := 775) (by decide +kernel), List.mem_of_getElem? (i := 776) (by decide +kernel)⟩
theorem lw_p25 : lw_okq (⟨"GunLine$Course", "worthOfColumn", "(I)I"⟩, 1) := ⟨⟨by decide +kernel, by decide +kernel⟩, List.mem_of_getElem? (i := 84) (by decide +kernel), List.mem_of_getElem? (i := 815) (by decide +kernel), List.mem_of_getElem? (i := 816) (by decide +kernel)⟩
theorem lw_p26 : lw_okq (⟨"GunLine", "scoreFrom", "(III)I"⟩, 18) := ⟨⟨by decide +kernel, by decide +kernel⟩, List.mem_of_getElem? (i := 27) (by decide +kernel), List.mem_of_getElem? (i := 833) (by decide +kernel), List.mem_of_getElem? (i := 834) (by decide +kernel)⟩
theorem lw_p27 : lw_okq (⟨"GunLine", "boatsIn", "(I)I"⟩, 18) := ⟨⟨by decide +kernel, by decide +kernel⟩, List.mem_of_getElem? (i := 27) (by decide +kernel), List.mem_of_getElem? (i := 865) (by decide +kernel), List.mem_of_getElem? (i := 866) (by decide +kernel)⟩
theorem lw_p28 : lw_okq (⟨"GunLine", "isAmong", "(II)Z"⟩, 18) := ⟨⟨by decide +kernel, by decide +kernel⟩, List.mem_of_getElem? (i := 27) (by decide +kernel), List.mem_of_getElem? (i := 893) (by decide +kernel), List.mem_of_getElem? (i := 894) (by decide +kernel)⟩
theorem lw_p29 : lw_okq (⟨"GunLine$Thirds", "isRest", "(I)Z"⟩, 5) := ⟨⟨by decide +kernel, by decide +kernel⟩, List.mem_of_getElem? (i := 249) (by decide +kernel), List.mem_of_getElem? (i := 910) (by decide +kernel), List.mem_of_getElem? (i := 911) (by decide +kernel)⟩
theorem lw_p30 : lw_okq (⟨"GunLine$Thirds", "spell", "(I)V"⟩, 5) := ⟨⟨by decide +kernel, by decide +kernel⟩, List.mem_of_getElem? (i := 249) (by decide +kernel), List.mem_of_getElem? (i := 914) (by decide +kernel), List.mem_of_getElem? (i := 915) (by decide +kernel)⟩
theorem lw_p31 : lw_okq (⟨"GunLine$Thirds", "digits", "()I"⟩, 5) := ⟨⟨by decide +kernel, by decide +kernel⟩, List.mem_of_getElem? (i := 249) (by decide +kernel), List.mem_of_getElem? (i := 922) (by decide +kernel), List.mem_of_getElem? (i := 923) (by decide +kernel)⟩
def lw_privs_2 : List (MethodName × Nat) := [(⟨"GunLine", "hasWater", "()Z"⟩, 18), (⟨"GunLine", "isBoat", "(I)Z"⟩, 18), (⟨"GunLine", "canPass", "(I)Z"⟩, 18), (⟨"GunLine$Mover", "look", "(LGunLine$Fleet;)V"⟩, 4), (⟨"GunLine$Fleet", "isBeside", "(II)Z"⟩, 10), (⟨"GunLine$Mover", "askRules", "(LGunLine$Course;LGunLine$Fleet;I)V"⟩, 4), (⟨"GunLine$Mover", "moveAll", "(LGunLine$Course;LGunLine$Fleet;)V"⟩, 4), (⟨"GunLine$Mover", "sail", "(LGunLine$Fleet;I)V"⟩, 4), (⟨"GunLine$Mover", "drawGusts", "(LGunLine$Fleet;LGunLine$Draws;I)V"⟩, 4), (⟨"GunLine$Course", "worthOfColumn", "(I)I"⟩, 1), (⟨"GunLine", "scoreFrom", "(III)I"⟩, 18), (⟨"GunLine", "boatsIn", "(I)I"⟩, 18), (⟨"GunLine", "isAmong", "(II)Z"⟩, 18), (⟨"GunLine$Thirds", "isRest", "(I)Z"⟩, 5), (⟨"GunLine$Thirds", "spell", "(I)V"⟩, 5), (⟨"GunLine$Thirds", "digits", "()I"⟩, 5)]
theorem lw_r2 : ∀ q ∈ lw_privs_2, lw_okq q := List.forall_mem_cons.mpr ⟨lw_p16, List.forall_mem_cons.mpr ⟨lw_p17, List.forall_mem_cons.mpr ⟨lw_p18, List.forall_mem_cons.mpr ⟨lw_p19, List.forall_mem_cons.mpr ⟨lw_p20, List.forall_mem_cons.mpr ⟨lw_p21, List.forall_mem_cons.mpr ⟨lw_p22, List.forall_mem_cons.mpr ⟨lw_p23, List.forall_mem_cons.mpr ⟨lw_p24, List.forall_mem_cons.mpr ⟨lw_p25, List.forall_mem_cons.mpr ⟨lw_p26, List.forall_mem_cons.mpr ⟨lw_p27, List.forall_mem_cons.mpr ⟨lw_p28, List.forall_mem_cons.mpr ⟨lw_p29, List.forall_mem_cons.mpr ⟨lw_p30, List.forall_mem_cons.mpr ⟨lw_p31, fun _ h => absurd h List.not_mem_nil⟩⟩⟩⟩⟩⟩⟩⟩⟩⟩⟩⟩⟩⟩⟩⟩
theorem lw_p32 : lw_okq (⟨"GunLine", "duelOf", "(II)I"⟩, 18) := ⟨⟨by decide +kernel, by decide +kernel⟩, List.mem_of_getElem? (i := 27) (by decide +kernel), List.mem_of_getElem? (i := 940) (by decide +kernel), List.mem_of_getElem? (i := 941) (by decide +kernel)⟩
theorem lw_p33 : lw_okq (⟨"GunLine$Fleet", "joinDuel", "(II)V"⟩, 10) := ⟨⟨by decide +kernel, by decide +kernel⟩, List.mem_of_getElem? (i := 97) (by decide +kernel), List.mem_of_getElem? (i := 953) (by decide +kernel), List.mem_of_getElem? (i := 954) (by decide +kernel)⟩
theorem lw_p34 : lw_okq (⟨"GunLine$Fleet", "isRowFull", "(II)Z"⟩, 10) := ⟨⟨by decide +kernel, by decide +kernel⟩, List.mem_of_getElem? (i := 97) (by decide +kernel), List.mem_of_getElem? (i := 1011) (by decide +kernel), List.mem_of_getElem? (i := 1012) (by decide +kernel)⟩
theorem lw_p35 : lw_okq (⟨"java/lang/Throwable", "fillInStackTrace", "(I)Ljava/lang/Throwable;"⟩, 6) := ⟨⟨by decide +kernel, by decide +kernel⟩, List.mem_of_getElem? (i := 1075) (by decide +kernel), List.mem_of_getElem? (i := 1073) (by decide +kernel), List.mem_of_getElem? (i := 1074) (by decide +kernel)⟩
theorem lw_p36 : lw_okq (⟨"GunLineModel", "readWater", "()I"⟩, 45) := ⟨⟨by decide +kernel, by decide +kernel⟩, List.mem_of_getElem? (i := 1101) (by decide +kernel), List.mem_of_getElem? (i := 1263) (by decide +kernel), List.mem_of_getElem? (i := 1264) (by decide +kernel)⟩
theorem lw_p37 : lw_okq (⟨"GunLineModel", "look", "()I"⟩, 45) := ⟨⟨by decide +kernel, by decide +kernel⟩, List.mem_of_getElem? (i := 1101) (by decide +kernel), List.mem_of_getElem? (i := 1267) (by decide +kernel), List.mem_of_getElem? (i := 1268) (by decide +kernel)⟩
theorem lw_p38 : lw_okq (⟨"GunLineModel", "here", "()I"⟩, 45) := ⟨⟨by decide +kernel, by decide +kernel⟩, List.mem_of_getElem? (i := 1101) (by decide +kernel), List.mem_of_getElem? (i := 1271) (by decide +kernel), List.mem_of_getElem? (i := 1272) (by decide +kernel)⟩
theorem lw_p39 : lw_okq (⟨"GunLineModel", "items", "(I[III)V"⟩, 45) := ⟨⟨by decide +kernel, by decide +kernel⟩, List.mem_of_getElem? (i := 1101) (by decide +kernel), List.mem_of_getElem? (i := 1275) (by decide +kernel), List.mem_of_getElem? (i := 1276) (by decide +kernel)⟩
theorem lw_p40 : lw_okq (⟨"GunLineModel", "number", "(II)I"⟩, 45) := ⟨⟨by decide +kernel, by decide +kernel⟩, List.mem_of_getElem? (i := 1101) (by decide +kernel), List.mem_of_getElem? (i := 1294) (by decide +kernel), List.mem_of_getElem? (i := 1295) (by decide +kernel)⟩
theorem lw_p41 : lw_okq (⟨"GunLineModel", "bad", "()V"⟩, 45) := ⟨⟨by decide +kernel, by decide +kernel⟩, List.mem_of_getElem? (i := 1101) (by decide +kernel), List.mem_of_getElem? (i := 1301) (by decide +kernel), List.mem_of_getElem? (i := 1302) (by decide +kernel)⟩
theorem lw_p42 : lw_okq (⟨"GunLineModel", "isWhole", "(Z)Z"⟩, 45) := ⟨⟨by decide +kernel, by decide +kernel⟩, List.mem_of_getElem? (i := 1101) (by decide +kernel), List.mem_of_getElem? (i := 1308) (by decide +kernel), List.mem_of_getElem? (i := 1309) (by decide +kernel)⟩
theorem lw_p43 : lw_okq (⟨"GunLineModel", "readLaw", "(I)I"⟩, 45) := ⟨⟨by decide +kernel, by decide +kernel⟩, List.mem_of_getElem? (i := 1101) (by decide +kernel), List.mem_of_getElem? (i := 1312) (by decide +kernel), List.mem_of_getElem? (i := 1313) (by decide +kernel)⟩
theorem lw_p44 : lw_okq (⟨"GunLineModel", "open", "(I)V"⟩, 45) := ⟨⟨by decide +kernel, by decide +kernel⟩, List.mem_of_getElem? (i := 1101) (by decide +kernel), List.mem_of_getElem? (i := 1316) (by decide +kernel), List.mem_of_getElem? (i := 1317) (by decide +kernel)⟩
theorem lw_p45 : lw_okq (⟨"GunLineModel", "clause", "()V"⟩, 45) := ⟨⟨by decide +kernel, by decide +kernel⟩, List.mem_of_getElem? (i := 1101) (by decide +kernel), List.mem_of_getElem? (i := 1320) (by decide +kernel), List.mem_of_getElem? (i := 1321) (by decide +kernel)⟩
theorem lw_p46 : lw_okq (⟨"GunLineModel", "condition", "()V"⟩, 45) := ⟨⟨by decide +kernel, by decide +kernel⟩, List.mem_of_getElem? (i := 1101) (by decide +kernel), List.mem_of_getElem? (i := 1324) (by decide +kernel), List.mem_of_getElem? (i := 1325) (by decide +kernel)⟩
theorem lw_p47 : lw_okq (⟨"GunLineModel", "unit", "()V"⟩, 45) := ⟨⟨by decide +kernel, by decide +kernel⟩, List.mem_of_getElem? (i := 1101) (by decide +kernel), List.mem_of_getElem? (i := 1328) (by decide +kernel), List.mem_of_getElem? (i := 1329) (by decide +kernel)⟩
def lw_privs_3 : List (MethodName × Nat) := [(⟨"GunLine", "duelOf", "(II)I"⟩, 18), (⟨"GunLine$Fleet", "joinDuel", "(II)V"⟩, 10), (⟨"GunLine$Fleet", "isRowFull", "(II)Z"⟩, 10), (⟨"java/lang/Throwable", "fillInStackTrace", "(I)Ljava/lang/Throwable;"⟩, 6), (⟨"GunLineModel", "readWater", "()I"⟩, 45), (⟨"GunLineModel", "look", "()I"⟩, 45), (⟨"GunLineModel", "here", "()I"⟩, 45), (⟨"GunLineModel", "items", "(I[III)V"⟩, 45), (⟨"GunLineModel", "number", "(II)I"⟩, 45), (⟨"GunLineModel", "bad", "()V"⟩, 45), (⟨"GunLineModel", "isWhole", "(Z)Z"⟩, 45), (⟨"GunLineModel", "readLaw", "(I)I"⟩, 45), (⟨"GunLineModel", "open", "(I)V"⟩, 45), (⟨"GunLineModel", "clause", "()V"⟩, 45), (⟨"GunLineModel", "condition", "()V"⟩, 45), (⟨"GunLineModel", "unit", "()V"⟩, 45)]
theorem lw_r3 : ∀ q ∈ lw_privs_3, lw_okq q := List.forall_mem_cons.mpr ⟨lw_p32, List.forall_mem_cons.mpr ⟨lw_p33, List.forall_mem_cons.mpr ⟨lw_p34, List.forall_mem_cons.mpr ⟨lw_p35, List.forall_mem_cons.mpr ⟨lw_p36, List.forall_mem_cons.mpr ⟨lw_p37, List.forall_mem_cons.mpr ⟨lw_p38, List.forall_mem_cons.mpr ⟨lw_p39, List.forall_mem_cons.mpr ⟨lw_p40, List.forall_mem_cons.mpr ⟨lw_p41, List.forall_mem_cons.mpr ⟨lw_p42, List.forall_mem_cons.mpr ⟨lw_p43, List.forall_mem_cons.mpr ⟨lw_p44, List.forall_mem_cons.mpr ⟨lw_p45, List.forall_mem_cons.mpr ⟨lw_p46, List.forall_mem_cons.mpr ⟨lw_p47, fun _ h => absurd h List.not_mem_nil⟩⟩⟩⟩⟩⟩⟩⟩⟩⟩⟩⟩⟩⟩⟩⟩
theorem lw_p48 : lw_okq (⟨"GunLineModel", "opens", "()V"⟩, 45) := ⟨⟨by decide +kernel, by decide +kernel⟩, List.mem_of_getElem? (i := 1101) (by decide +kernel), List.mem_of_getElem? (i := 1332) (by decide +kernel), List.mem_of_getElem? (i := 1333) (by decide +kernel)⟩
theorem lw_p49 : lw_okq (⟨"GunLineModel", "put", "(II)V"⟩, 45) := ⟨⟨by decide +kernel, by decide +kernel⟩, List.mem_of_getElem? (i := 1101) (by decide +kernel), List.mem_of_getElem? (i := 1336) (by decide +kernel), List.mem_of_getElem? (i := 1337) (by decide +kernel)⟩
theorem lw_p50 : lw_okq (⟨"GunLineModel", "closes", "(I)V"⟩, 45) := ⟨⟨by decide +kernel, by decide +kernel⟩, List.mem_of_getElem? (i := 1101) (by decide +kernel), List.mem_of_getElem? (i := 1340) (by decide +kernel), List.mem_of_getElem? (i := 1341) (by decide +kernel)⟩
theorem lw_p51 : lw_okq (⟨"GunLineModel", "sum", "()V"⟩, 45) := ⟨⟨by decide +kernel, by decide +kernel⟩, List.mem_of_getElem? (i := 1101) (by decide +kernel), List.mem_of_getElem? (i := 1344) (by decide +kernel), List.mem_of_getElem? (i := 1345) (by decide +kernel)⟩
theorem lw_p52 : lw_okq (⟨"GunLineModel", "term", "()V"⟩, 45) := ⟨⟨by decide +kernel, by decide +kernel⟩, List.mem_of_getElem? (i := 1101) (by decide +kernel), List.mem_of_getElem? (i := 1348) (by decide +kernel), List.mem_of_getElem? (i := 1349) (by decide +kernel)⟩
theorem lw_p53 : lw_okq (⟨"GunLineModel", "atom", "()V"⟩, 45) := ⟨⟨by decide +kernel, by decide +kernel⟩, List.mem_of_getElem? (i := 1101) (by decide +kernel), List.mem_of_getElem? (i := 1352) (by decide +kernel), List.mem_of_getElem? (i := 1353) (by decide +kernel)⟩
theorem lw_p54 : lw_okq (⟨"GunLineModel", "plainNumber", "()I"⟩, 45) := ⟨⟨by decide +kernel, by decide +kernel⟩, List.mem_of_getElem? (i := 1101) (by decide +kernel), List.mem_of_getElem? (i := 1356) (by decide +kernel), List.mem_of_getElem? (i := 1357) (by decide +kernel)⟩
theorem lw_p55 : lw_okq (⟨"GunLineModel", "compare", "()V"⟩, 45) := ⟨⟨by decide +kernel, by decide +kernel⟩, List.mem_of_getElem? (i := 1101) (by decide +kernel), List.mem_of_getElem? (i := 1363) (by decide +kernel), List.mem_of_getElem? (i := 1364) (by decide +kernel)⟩
theorem lw_p56 : lw_okq (⟨"GunLineModel", "goOnAnd", "()V"⟩, 45) := ⟨⟨by decide +kernel, by decide +kernel⟩, List.mem_of_getElem? (i := 1101) (by decide +kernel), List.mem_of_getElem? (i := 1370) (by decide +kernel), List.mem_of_getElem? (i := 1371) (by decide +kernel)⟩
theorem lw_p57 : lw_okq (⟨"GunLineModel", "goOnOr", "()V"⟩, 45) := ⟨⟨by decide +kernel, by decide +kernel⟩, List.mem_of_getElem? (i := 1101) (by decide +kernel), List.mem_of_getElem? (i := 1374) (by decide +kernel), List.mem_of_getElem? (i := 1375) (by decide +kernel)⟩
theorem lw_p58 : lw_okq (⟨"GunLineModel", "atEnd", "()I"⟩, 45) := ⟨⟨by decide +kernel, by decide +kernel⟩, List.mem_of_getElem? (i := 1101) (by decide +kernel), List.mem_of_getElem? (i := 1378) (by decide +kernel), List.mem_of_getElem? (i := 1379) (by decide +kernel)⟩
theorem lw_p59 : lw_okq (⟨"GunLineModel", "takeWater", "()I"⟩, 45) := ⟨⟨by decide +kernel, by decide +kernel⟩, List.mem_of_getElem? (i := 1101) (by decide +kernel), List.mem_of_getElem? (i := 1386) (by decide +kernel), List.mem_of_getElem? (i := 1387) (by decide +kernel)⟩
theorem lw_p60 : lw_okq (⟨"GunLineModel", "begin", "()V"⟩, 45) := ⟨⟨by decide +kernel, by decide +kernel⟩, List.mem_of_getElem? (i := 1101) (by decide +kernel), List.mem_of_getElem? (i := 1390) (by decide +kernel), List.mem_of_getElem? (i := 1391) (by decide +kernel)⟩
theorem lw_p61 : lw_okq (⟨"GunLineModel", "put", "(III)V"⟩, 45) := ⟨⟨by decide +kernel, by decide +kernel⟩, List.mem_of_getElem? (i := 1101) (by decide +kernel), List.mem_of_getElem? (i := 1394) (by decide +kernel), List.mem_of_getElem? (i := 1395) (by decide +kernel)⟩
theorem lw_p62 : lw_okq (⟨"GunLineModel", "isBoat", "(I)Z"⟩, 45) := ⟨⟨by decide +kernel, by decide +kernel⟩, List.mem_of_getElem? (i := 1101) (by decide +kernel), List.mem_of_getElem? (i := 1402) (by decide +kernel), List.mem_of_getElem? (i := 1403) (by decide +kernel)⟩
theorem lw_p63 : lw_okq (⟨"GunLineModel", "of", "(II)I"⟩, 45) := ⟨⟨by decide +kernel, by decide +kernel⟩, List.mem_of_getElem? (i := 1101) (by decide +kernel), List.mem_of_getElem? (i := 1406) (by decide +kernel), List.mem_of_getElem? (i := 1407) (by decide +kernel)⟩
def lw_privs_4 : List (MethodName × Nat) := [(⟨"GunLineModel", "opens", "()V"⟩, 45), (⟨"GunLineModel", "put", "(II)V"⟩, 45), (⟨"GunLineModel", "closes", "(I)V"⟩, 45), (⟨"GunLineModel", "sum", "()V"⟩, 45), (⟨"GunLineModel", "term", "()V"⟩, 45), (⟨"GunLineModel", "atom", "()V"⟩, 45), (⟨"GunLineModel", "plainNumber", "()I"⟩, 45), (⟨"GunLineModel", "compare", "()V"⟩, 45), (⟨"GunLineModel", "goOnAnd", "()V"⟩, 45), (⟨"GunLineModel", "goOnOr", "()V"⟩, 45), (⟨"GunLineModel", "atEnd", "()I"⟩, 45), (⟨"GunLineModel", "takeWater", "()I"⟩, 45), (⟨"GunLineModel", "begin", "()V"⟩, 45), (⟨"GunLineModel", "put", "(III)V"⟩, 45), (⟨"GunLineModel", "isBoat", "(I)Z"⟩, 45), (⟨"GunLineModel", "of", "(II)I"⟩, 45)]
theorem lw_r4 : ∀ q ∈ lw_privs_4, lw_okq q := List.forall_mem_cons.mpr ⟨lw_p48, List.forall_mem_cons.mpr ⟨lw_p49, List.forall_mem_cons.mpr ⟨lw_p50, List.forall_mem_cons.mpr ⟨lw_p51, List.forall_mem_cons.mpr ⟨lw_p52, List.forall_mem_cons.mpr ⟨lw_p53, List.forall_mem_cons.mpr ⟨lw_p54, List.forall_mem_cons.mpr ⟨lw_p55, List.forall_mem_cons.mpr ⟨lw_p56, List.forall_mem_cons.mpr ⟨lw_p57, List.forall_mem_cons.mpr ⟨lw_p58, List.forall_mem_cons.mpr ⟨lw_p59, List.forall_mem_cons.mpr ⟨lw_p60, List.forall_mem_cons.mpr ⟨lw_p61, List.forall_mem_cons.mpr ⟨lw_p62, List.forall_mem_cons.mpr ⟨lw_p63, fun _ h => absurd h List.not_mem_nil⟩⟩⟩⟩⟩⟩⟩⟩⟩⟩⟩⟩⟩⟩⟩⟩
theorem lw_p64 : lw_okq (⟨"GunLineModel", "most", "(I)I"⟩, 45) := ⟨⟨by decide +kernel, by decide +kernel⟩, List.mem_of_getElem? (i := 1101) (by decide +kernel), List.mem_of_getElem? (i := 1410) (by decide +kernel), List.mem_of_getElem? (i := 1411) (by decide +kernel)⟩
theorem lw_p65 : lw_okq (⟨"GunLineModel", "statusBy", "(II)I"⟩, 45) := ⟨⟨by decide +kernel, by decide +kernel⟩, List.mem_of_getElem? (i := 1101) (by decide +kernel), List.mem_of_getElem? (i := 1414) (by decide +kernel), List.mem_of_getElem? (i := 1415) (by decide +kernel)⟩
theorem lw_p66 : lw_okq (⟨"GunLineModel", "scoreOf", "(I)I"⟩, 45) := ⟨⟨by decide +kernel, by decide +kernel⟩, List.mem_of_getElem? (i := 1101) (by decide +kernel), List.mem_of_getElem? (i := 1418) (by decide +kernel), List.mem_of_getElem? (i := 1419) (by decide +kernel)⟩
theorem lw_p67 : lw_okq (⟨"GunLineModel", "scoreBy", "(II)I"⟩, 45) := ⟨⟨by decide +kernel, by decide +kernel⟩, List.mem_of_getElem? (i := 1101) (by decide +kernel), List.mem_of_getElem? (i := 1422) (by decide +kernel), List.mem_of_getElem? (i := 1423) (by decide +kernel)⟩
theorem lw_p68 : lw_okq (⟨"GunLineModel", "isShadowed", "(I)Z"⟩, 45) := ⟨⟨by decide +kernel, by decide +kernel⟩, List.mem_of_getElem? (i := 1101) (by decide +kernel), List.mem_of_getElem? (i := 1427) (by decide +kernel), List.mem_of_getElem? (i := 1428) (by decide +kernel)⟩
theorem lw_p69 : lw_okq (⟨"GunLineModel", "placeOf", "(I)I"⟩, 45) := ⟨⟨by decide +kernel, by decide +kernel⟩, List.mem_of_getElem? (i := 1101) (by decide +kernel), List.mem_of_getElem? (i := 1434) (by decide +kernel), List.mem_of_getElem? (i := 1435) (by decide +kernel)⟩
theorem lw_p70 : lw_okq (⟨"GunLineModel", "placeBy", "(II)I"⟩, 45) := ⟨⟨by decide +kernel, by decide +kernel⟩, List.mem_of_getElem? (i := 1101) (by decide +kernel), List.mem_of_getElem? (i := 1438) (by decide +kernel), List.mem_of_getElem? (i := 1439) (by decide +kernel)⟩
theorem lw_p71 : lw_okq (⟨"GunLineModel", "believed", "(I)I"⟩, 45) := ⟨⟨by decide +kernel, by decide +kernel⟩, List.mem_of_getElem? (i := 1101) (by decide +kernel), List.mem_of_getElem? (i := 1442) (by decide +kernel), List.mem_of_getElem? (i := 1443) (by decide +kernel)⟩
theorem lw_p72 : lw_okq (⟨"GunLineModel", "keep", "()I"⟩, 45) := ⟨⟨by decide +kernel, by decide +kernel⟩, List.mem_of_getElem? (i := 1101) (by decide +kernel), List.mem_of_getElem? (i := 1454) (by decide +kernel), List.mem_of_getElem? (i := 1455) (by decide +kernel)⟩
theorem lw_p73 : lw_okq (⟨"GunLineModel", "isHeld", "(II)Z"⟩, 45) := ⟨⟨by decide +kernel, by decide +kernel⟩, List.mem_of_getElem? (i := 1101) (by decide +kernel), List.mem_of_getElem? (i := 1470) (by decide +kernel), List.mem_of_getElem? (i := 1471) (by decide +kernel)⟩
theorem lw_p74 : lw_okq (⟨"GunLineModel", "areSeconds", "(I)Z"⟩, 45) := ⟨⟨by decide +kernel, by decide +kernel⟩, List.mem_of_getElem? (i := 1101) (by decide +kernel), List.mem_of_getElem? (i := 1482) (by decide +kernel), List.mem_of_getElem? (i := 1483) (by decide +kernel)⟩
theorem lw_p75 : lw_okq (⟨"GunLineModel", "leftSeconds", "()I"⟩, 45) := ⟨⟨by decide +kernel, by decide +kernel⟩, List.mem_of_getElem? (i := 1101) (by decide +kernel), List.mem_of_getElem? (i := 1486) (by decide +kernel), List.mem_of_getElem? (i := 1487) (by decide +kernel)⟩
theorem lw_p76 : lw_okq (⟨"GunLineModel", "pass", "()V"⟩, 45) := ⟨⟨by decide +kernel, by decide +kernel⟩, List.mem_of_getElem? (i := 1101) (by decide +kernel), List.mem_of_getElem? (i := 1490) (by decide +kernel), List.mem_of_getElem? (i := 1491) (by decide +kernel)⟩
theorem lw_p77 : lw_okq (⟨"GunLineModel", "speedAll", "()V"⟩, 45) := ⟨⟨by decide +kernel, by decide +kernel⟩, List.mem_of_getElem? (i := 1101) (by decide +kernel), List.mem_of_getElem? (i := 1494) (by decide +kernel), List.mem_of_getElem? (i := 1495) (by decide +kernel)⟩
theorem lw_p78 : lw_okq (⟨"GunLineModel", "wantsOf", "(I)I"⟩, 45) := ⟨⟨by decide +kernel, by decide +kernel⟩, List.mem_of_getElem? (i := 1101) (by decide +kernel), List.mem_of_getElem? (i := 1498) (by decide +kernel), List.mem_of_getElem? (i := 1499) (by decide +kernel)⟩
theorem lw_p79 : lw_okq (⟨"GunLineModel", "isLeewardHeld", "(I)Z"⟩, 45) := ⟨⟨by decide +kernel, by decide +kernel⟩, List.mem_of_getElem? (i := 1101) (by decide +kernel), List.mem_of_getElem? (i := 1502) (by decide +kernel), List.mem_of_getElem? (i := 1503) (by decide +kernel)⟩
def lw_privs_5 : List (MethodName × Nat) := [(⟨"GunLineModel", "most", "(I)I"⟩, 45), (⟨"GunLineModel", "statusBy", "(II)I"⟩, 45), (⟨"GunLineModel", "scoreOf", "(I)I"⟩, 45), (⟨"GunLineModel", "scoreBy", "(II)I"⟩, 45), (⟨"GunLineModel", "isShadowed", "(I)Z"⟩, 45), (⟨"GunLineModel", "placeOf", "(I)I"⟩, 45), (⟨"GunLineModel", "placeBy", "(II)I"⟩, 45), (⟨"GunLineModel", "believed", "(I)I"⟩, 45), (⟨"GunLineModel", "keep", "()I"⟩, 45), (⟨"GunLineModel", "isHeld", "(II)Z"⟩, 45), (⟨"GunLineModel", "areSeconds", "(I)Z"⟩, 45), (⟨"GunLineModel", "leftSeconds", "()I"⟩, 45), (⟨"GunLineModel", "pass", "()V"⟩, 45), (⟨"GunLineModel", "speedAll", "()V"⟩, 45), (⟨"GunLineModel", "wantsOf", "(I)I"⟩, 45), (⟨"GunLineModel", "isLeewardHeld", "(I)Z"⟩, 45)]
theorem lw_r5 : ∀ q ∈ lw_privs_5, lw_okq q := List.forall_mem_cons.mpr ⟨lw_p64, List.forall_mem_cons.mpr ⟨lw_p65, List.forall_mem_cons.mpr ⟨lw_p66, List.forall_mem_cons.mpr ⟨lw_p67, List.forall_mem_cons.mpr ⟨lw_p68, List.forall_mem_cons.mpr ⟨lw_p69, List.forall_mem_cons.mpr ⟨lw_p70, List.forall_mem_cons.mpr ⟨lw_p71, List.forall_mem_cons.mpr ⟨lw_p72, List.forall_mem_cons.mpr ⟨lw_p73, List.forall_mem_cons.mpr ⟨lw_p74, List.forall_mem_cons.mpr ⟨lw_p75, List.forall_mem_cons.mpr ⟨lw_p76, List.forall_mem_cons.mpr ⟨lw_p77, List.forall_mem_cons.mpr ⟨lw_p78, List.forall_mem_cons.mpr ⟨lw_p79, fun _ h => absurd h List.not_mem_nil⟩⟩⟩⟩⟩⟩⟩⟩⟩⟩⟩⟩⟩⟩⟩⟩
theorem lw_p80 : lw_okq (⟨"GunLineModel", "worthOf", "(I)I"⟩, 45) := ⟨⟨by decide +kernel, by decide +kernel⟩, List.mem_of_getElem? (i := 1101) (by decide +kernel), List.mem_of_getElem? (i := 1506) (by decide +kernel), List.mem_of_getElem? (i := 1507) (by decide +kernel)⟩
theorem lw_p81 : lw_okq (⟨"GunLineModel", "workOut", "(III)I"⟩, 45) := ⟨⟨by decide +kernel, by decide +kernel⟩, List.mem_of_getElem? (i := 1101) (by decide +kernel), List.mem_of_getElem? (i := 1510) (by decide +kernel), List.mem_of_getElem? (i := 1511) (by decide +kernel)⟩
theorem lw_p82 : lw_okq (⟨"GunLineModel", "faster", "(II)V"⟩, 45) := ⟨⟨by decide +kernel, by decide +kernel⟩, List.mem_of_getElem? (i := 1101) (by decide +kernel), List.mem_of_getElem? (i := 1531) (by decide +kernel), List.mem_of_getElem? (i := 1532) (by decide +kernel)⟩
theorem lw_p83 : lw_okq (⟨"GunLineModel", "goAll", "()V"⟩, 45) := ⟨⟨by decide +kernel, by decide +kernel⟩, List.mem_of_getElem? (i := 1101) (by decide +kernel), List.mem_of_getElem? (i := 1536) (by decide +kernel), List.mem_of_getElem? (i := 1537) (by decide +kernel)⟩
theorem lw_p84 : lw_okq (⟨"GunLineModel", "goOne", "(I)V"⟩, 45) := ⟨⟨by decide +kernel, by decide +kernel⟩, List.mem_of_getElem? (i := 1101) (by decide +kernel), List.mem_of_getElem? (i := 1540) (by decide +kernel), List.mem_of_getElem? (i := 1541) (by decide +kernel)⟩
theorem lw_p85 : lw_okq (⟨"GunLineModel", "drift", "()V"⟩, 45) := ⟨⟨by decide +kernel, by decide +kernel⟩, List.mem_of_getElem? (i := 1101) (by decide +kernel), List.mem_of_getElem? (i := 1544) (by decide +kernel), List.mem_of_getElem? (i := 1545) (by decide +kernel)⟩
theorem lw_p86 : lw_okq (⟨"GunLineModel", "draw", "(I)I"⟩, 45) := ⟨⟨by decide +kernel, by decide +kernel⟩, List.mem_of_getElem? (i := 1101) (by decide +kernel), List.mem_of_getElem? (i := 1552) (by decide +kernel), List.mem_of_getElem? (i := 1553) (by decide +kernel)⟩
theorem lw_p87 : lw_okq (⟨"GunLineModel", "putAside", "()V"⟩, 45) := ⟨⟨by decide +kernel, by decide +kernel⟩, List.mem_of_getElem? (i := 1101) (by decide +kernel), List.mem_of_getElem? (i := 1567) (by decide +kernel), List.mem_of_getElem? (i := 1568) (by decide +kernel)⟩
theorem lw_p88 : lw_okq (⟨"GunLineModel", "toGun", "()V"⟩, 45) := ⟨⟨by decide +kernel, by decide +kernel⟩, List.mem_of_getElem? (i := 1101) (by decide +kernel), List.mem_of_getElem? (i := 1571) (by decide +kernel), List.mem_of_getElem? (i := 1572) (by decide +kernel)⟩
theorem lw_p89 : lw_okq (⟨"GunLineModel", "takeBack", "()V"⟩, 45) := ⟨⟨by decide +kernel, by decide +kernel⟩, List.mem_of_getElem? (i := 1101) (by decide +kernel), List.mem_of_getElem? (i := 1575) (by decide +kernel), List.mem_of_getElem? (i := 1576) (by decide +kernel)⟩
theorem lw_p90 : lw_okq (⟨"GunLineModel", "bestCell", "(IIII)I"⟩, 45) := ⟨⟨by decide +kernel, by decide +kernel⟩, List.mem_of_getElem? (i := 1101) (by decide +kernel), List.mem_of_getElem? (i := 1583) (by decide +kernel), List.mem_of_getElem? (i := 1584) (by decide +kernel)⟩
theorem lw_p91 : lw_okq (⟨"GunLineModel", "scoreAtGun", "(I)I"⟩, 45) := ⟨⟨by decide +kernel, by decide +kernel⟩, List.mem_of_getElem? (i := 1101) (by decide +kernel), List.mem_of_getElem? (i := 1587) (by decide +kernel), List.mem_of_getElem? (i := 1588) (by decide +kernel)⟩
theorem lw_p92 : lw_okq (⟨"GunLineModel", "thirdOf", "(I)I"⟩, 45) := ⟨⟨by decide +kernel, by decide +kernel⟩, List.mem_of_getElem? (i := 1101) (by decide +kernel), List.mem_of_getElem? (i := 1611) (by decide +kernel), List.mem_of_getElem? (i := 1612) (by decide +kernel)⟩
theorem lw_p93 : lw_okq (⟨"GunLineModel", "rows", "()I"⟩, 45) := ⟨⟨by decide +kernel, by decide +kernel⟩, List.mem_of_getElem? (i := 1101) (by decide +kernel), List.mem_of_getElem? (i := 1638) (by decide +kernel), List.mem_of_getElem? (i := 1639) (by decide +kernel)⟩
theorem lw_p94 : lw_okq (⟨"GunLineModel", "layThirds", "(I)V"⟩, 45) := ⟨⟨by decide +kernel, by decide +kernel⟩, List.mem_of_getElem? (i := 1101) (by decide +kernel), List.mem_of_getElem? (i := 1642) (by decide +kernel), List.mem_of_getElem? (i := 1643) (by decide +kernel)⟩
theorem lw_p95 : lw_okq (⟨"GunLineModel", "isRest", "(I)Z"⟩, 45) := ⟨⟨by decide +kernel, by decide +kernel⟩, List.mem_of_getElem? (i := 1101) (by decide +kernel), List.mem_of_getElem? (i := 1646) (by decide +kernel), List.mem_of_getElem? (i := 1647) (by decide +kernel)⟩
def lw_privs_6 : List (MethodName × Nat) := [(⟨"GunLineModel", "worthOf", "(I)I"⟩, 45), (⟨"GunLineModel", "workOut", "(III)I"⟩, 45), (⟨"GunLineModel", "faster", "(II)V"⟩, 45), (⟨"GunLineModel", "goAll", "()V"⟩, 45), (⟨"GunLineModel", "goOne", "(I)V"⟩, 45), (⟨"GunLineModel", "drift", "()V"⟩, 45), (⟨"GunLineModel", "draw", "(I)I"⟩, 45), (⟨"GunLineModel", "putAside", "()V"⟩, 45), (⟨"GunLineModel", "toGun", "()V"⟩, 45), (⟨"GunLineModel", "takeBack", "()V"⟩, 45), (⟨"GunLineModel", "bestCell", "(IIII)I"⟩, 45), (⟨"GunLineModel", "scoreAtGun", "(I)I"⟩, 45), (⟨"GunLineModel", "thirdOf", "(I)I"⟩, 45), (⟨"GunLineModel", "rows", "()I"⟩, 45), (⟨"GunLineModel", "layThirds", "(I)V"⟩, 45), (⟨"GunLineModel", "isRest", "(I)Z"⟩, 45)]
theorem lw_r6 : ∀ q ∈ lw_privs_6, lw_okq q := List.forall_mem_cons.mpr ⟨lw_p80, List.forall_mem_cons.mpr ⟨lw_p81, List.forall_mem_cons.mpr ⟨lw_p82, List.forall_mem_cons.mpr ⟨lw_p83, List.forall_mem_cons.mpr ⟨lw_p84, List.forall_mem_cons.mpr ⟨lw_p85, List.forall_mem_cons.mpr ⟨lw_p86, List.forall_mem_cons.mpr ⟨lw_p87, List.forall_mem_cons.mpr ⟨lw_p88, List.forall_mem_cons.mpr ⟨lw_p89, List.forall_mem_cons.mpr ⟨lw_p90, List.forall_mem_cons.mpr ⟨lw_p91, List.forall_mem_cons.mpr ⟨lw_p92, List.forall_mem_cons.mpr ⟨lw_p93, List.forall_mem_cons.mpr ⟨lw_p94, List.forall_mem_cons.mpr ⟨lw_p95, fun _ h => absurd h List.not_mem_nil⟩⟩⟩⟩⟩⟩⟩⟩⟩⟩⟩⟩⟩⟩⟩⟩
theorem lw_p96 : lw_okq (⟨"GunLineModel", "thirdWorth", "(III)I"⟩, 45) := ⟨⟨by decide +kernel, by decide +kernel⟩, List.mem_of_getElem? (i := 1101) (by decide +kernel), List.mem_of_getElem? (i := 1650) (by decide +kernel), List.mem_of_getElem? (i := 1651) (by decide +kernel)⟩
theorem lw_p97 : lw_okq (⟨"GunLineModel", "fullest", "(I)I"⟩, 45) := ⟨⟨by decide +kernel, by decide +kernel⟩, List.mem_of_getElem? (i := 1101) (by decide +kernel), List.mem_of_getElem? (i := 1658) (by decide +kernel), List.mem_of_getElem? (i := 1659) (by decide +kernel)⟩
theorem lw_p98 : lw_okq (⟨"GunLineModel", "isLaw", "(I)Z"⟩, 45) := ⟨⟨by decide +kernel, by decide +kernel⟩, List.mem_of_getElem? (i := 1101) (by decide +kernel), List.mem_of_getElem? (i := 1666) (by decide +kernel), List.mem_of_getElem? (i := 1667) (by decide +kernel)⟩
theorem lw_p99 : lw_okq (⟨"GunLineModel", "duelOf", "(II)I"⟩, 45) := ⟨⟨by decide +kernel, by decide +kernel⟩, List.mem_of_getElem? (i := 1101) (by decide +kernel), List.mem_of_getElem? (i := 1670) (by decide +kernel), List.mem_of_getElem? (i := 1671) (by decide +kernel)⟩
theorem lw_p100 : lw_okq (⟨"GunLineModel", "sumOfDuels", "(I)I"⟩, 45) := ⟨⟨by decide +kernel, by decide +kernel⟩, List.mem_of_getElem? (i := 1101) (by decide +kernel), List.mem_of_getElem? (i := 1682) (by decide +kernel), List.mem_of_getElem? (i := 1683) (by decide +kernel)⟩
theorem lw_p101 : lw_okq (⟨"GunLineModel", "wasSo", "(II)Z"⟩, 45) := ⟨⟨by decide +kernel, by decide +kernel⟩, List.mem_of_getElem? (i := 1101) (by decide +kernel), List.mem_of_getElem? (i := 1694) (by decide +kernel), List.mem_of_getElem? (i := 1695) (by decide +kernel)⟩
theorem lw_p102 : lw_okq (⟨"GunLineModel", "write", "()V"⟩, 45) := ⟨⟨by decide +kernel, by decide +kernel⟩, List.mem_of_getElem? (i := 1101) (by decide +kernel), List.mem_of_getElem? (i := 1702) (by decide +kernel), List.mem_of_getElem? (i := 1703) (by decide +kernel)⟩
theorem lw_p103 : lw_okq (⟨"GunLineModel", "pointsOf", "(I)I"⟩, 45) := ⟨⟨by decide +kernel, by decide +kernel⟩, List.mem_of_getElem? (i := 1101) (by decide +kernel), List.mem_of_getElem? (i := 1710) (by decide +kernel), List.mem_of_getElem? (i := 1711) (by decide +kernel)⟩
theorem lw_p104 : lw_okq (⟨"GunLineModel", "drawCell", "(I)V"⟩, 45) := ⟨⟨by decide +kernel, by decide +kernel⟩, List.mem_of_getElem? (i := 1101) (by decide +kernel), List.mem_of_getElem? (i := 1722) (by decide +kernel), List.mem_of_getElem? (i := 1723) (by decide +kernel)⟩
theorem lw_p105 : lw_okq (⟨"GunLineModel", "isHeldAhead", "(III)Z"⟩, 45) := ⟨⟨by decide +kernel, by decide +kernel⟩, List.mem_of_getElem? (i := 1101) (by decide +kernel), List.mem_of_getElem? (i := 1726) (by decide +kernel), List.mem_of_getElem? (i := 1727) (by decide +kernel)⟩
def lw_privs_7 : List (MethodName × Nat) := [(⟨"GunLineModel", "thirdWorth", "(III)I"⟩, 45), (⟨"GunLineModel", "fullest", "(I)I"⟩, 45), (⟨"GunLineModel", "isLaw", "(I)Z"⟩, 45), (⟨"GunLineModel", "duelOf", "(II)I"⟩, 45), (⟨"GunLineModel", "sumOfDuels", "(I)I"⟩, 45), (⟨"GunLineModel", "wasSo", "(II)Z"⟩, 45), (⟨"GunLineModel", "write", "()V"⟩, 45), (⟨"GunLineModel", "pointsOf", "(I)I"⟩, 45), (⟨"GunLineModel", "drawCell", "(I)V"⟩, 45), (⟨"GunLineModel", "isHeldAhead", "(III)Z"⟩, 45)]
theorem lw_r7 : ∀ q ∈ lw_privs_7, lw_okq q := List.forall_mem_cons.mpr ⟨lw_p96, List.forall_mem_cons.mpr ⟨lw_p97, List.forall_mem_cons.mpr ⟨lw_p98, List.forall_mem_cons.mpr ⟨lw_p99, List.forall_mem_cons.mpr ⟨lw_p100, List.forall_mem_cons.mpr ⟨lw_p101, List.forall_mem_cons.mpr ⟨lw_p102, List.forall_mem_cons.mpr ⟨lw_p103, List.forall_mem_cons.mpr ⟨lw_p104, List.forall_mem_cons.mpr ⟨lw_p105, fun _ h => absurd h List.not_mem_nil⟩⟩⟩⟩⟩⟩⟩⟩⟩⟩
def lw_privs : List (MethodName × Nat) := lw_privs_1 ++ (lw_privs_2 ++ (lw_privs_3 ++ (lw_privs_4 ++ (lw_privs_5 ++ (lw_privs_6 ++ (lw_privs_7))))))
def lw_tbl : List Cond := k2_sels lw_privs ++ tables_1
theorem lw_privs_ok : ∀ q ∈ lw_privs, lw_okq q := by
  show ∀ q ∈ lw_privs_1 ++ (lw_privs_2 ++ (lw_privs_3 ++ (lw_privs_4 ++ (lw_privs_5 ++ (lw_privs_6 ++ (lw_privs_7)))))), lw_okq q
  exact List.forall_mem_append.mpr ⟨lw_r1, List.forall_mem_append.mpr ⟨lw_r2, List.forall_mem_append.mpr ⟨lw_r3, List.forall_mem_append.mpr ⟨lw_r4, List.forall_mem_append.mpr ⟨lw_r5, List.forall_mem_append.mpr ⟨lw_r6, lw_r7⟩⟩⟩⟩⟩⟩
-- ===== end of PART A; then your names; then what follows =====
end
section
/-! ===== BEGIN printed: names, fields, word lists, decode rows ===== -/
def RX0 : String := "GunLine$Acts"
def TX0 : u_T := fun k => match k with
  | 0 => ("GunLine$Acts", "rows", "[I", true)
  | 1 => ("GunLine$Acts", "next", "I", false)
  | _ => ("GunLine$Acts", "count", "I", false)
def tyX0 : Nat → FieldType := fun k => match k with
  | 0 => .array .int
  | 1 => .int
  | _ => .int
abbrev wsX00 : List Cond := u_ws RX0 TX0 3
theorem nmX0 : ∀ a, a < 3 → ∀ b, b < 3 → a ≠ b → (TX0 a).2.1 ≠ (TX0 b).2.1 := by decide +kernel
theorem tyX0_ok : ∀ k, k < 3 → parseFieldDescriptor (TX0 k).2.2.1 = some (tyX0 k) := by decide +kernel
abbrev cX0_init : ByteArray := prog_2_method_1_code
def yX0_init : MethodName := ⟨RX0, "<init>", "()V"⟩
abbrev cX0_forget : ByteArray := prog_2_method_2_code
def yX0_forget : MethodName := ⟨RX0, "forget", "()V"⟩
abbrev cX0_remember : ByteArray := prog_2_method_3_code
def yX0_remember : MethodName := ⟨RX0, "remember", "(LGunLine$Fleet;)V"⟩
abbrev cX0_takeBack : ByteArray := prog_2_method_4_code
def yX0_takeBack : MethodName := ⟨RX0, "takeBack", "(LGunLine$Fleet;)V"⟩
def RX1 : String := "GunLine$Course"
def TX1 : u_T := fun k => match k with
  | _ => ("GunLine$Course", "value", "[I", true)
def tyX1 : Nat → FieldType := fun k => match k with
  | _ => .array .int
abbrev wsX10 : List Cond := u_ws RX1 TX1 1
theorem nmX1 : ∀ a, a < 1 → ∀ b, b < 1 → a ≠ b → (TX1 a).2.1 ≠ (TX1 b).2.1 := by decide +kernel
theorem tyX1_ok : ∀ k, k < 1 → parseFieldDescriptor (TX1 k).2.2.1 = some (tyX1 k) := by decide +kernel
abbrev cX1_init : ByteArray := prog_3_method_1_code
def yX1_init : MethodName := ⟨RX1, "<init>", "()V"⟩
abbrev cX1_copyFrom : ByteArray := prog_3_method_2_code
def yX1_copyFrom : MethodName := ⟨RX1, "copyFrom", "(LGunLine$Course;)V"⟩
abbrev cX1_setForDuel : ByteArray := prog_3_method_3_code
def yX1_setForDuel : MethodName := ⟨RX1, "setForDuel", "(I)V"⟩
abbrev cX1_hasColumn : ByteArray := prog_3_method_4_code
def yX1_hasColumn : MethodName := ⟨RX1, "hasColumn", "(I)Z"⟩
abbrev cX1_thirdOf : ByteArray := prog_3_method_5_code
def yX1_thirdOf : MethodName := ⟨RX1, "thirdOf", "(I)I"⟩
abbrev cX1_secondsLeft : ByteArray := prog_3_method_6_code
def yX1_secondsLeft : MethodName := ⟨RX1, "secondsLeft", "(LGunLine$Fleet;)I"⟩
abbrev cX1_statusOf : ByteArray := prog_3_method_7_code
def yX1_statusOf : MethodName := ⟨RX1, "statusOf", "(LGunLine$Fleet;I)I"⟩
abbrev cX1_scoreOf : ByteArray := prog_3_method_8_code
def yX1_scoreOf : MethodName := ⟨RX1, "scoreOf", "(LGunLine$Fleet;I)I"⟩
abbrev cX1_worthOfColumn : ByteArray := prog_3_method_9_code
def yX1_worthOfColumn : MethodName := ⟨RX1, "worthOfColumn", "(I)I"⟩
abbrev cX1_placeOf : ByteArray := prog_3_method_10_code
def yX1_placeOf : MethodName := ⟨RX1, "placeOf", "(LGunLine$Fleet;I)I"⟩
def RX2 : String := "GunLine$Draws"
def TX2 : u_T := fun k => match k with
  | _ => ("GunLine$Draws", "x", "J", false)
def tyX2 : Nat → FieldType := fun k => match k with
  | _ => .long
abbrev wsX20 : List Cond := u_ws RX2 TX2 1
theorem nmX2 : ∀ a, a < 1 → ∀ b, b < 1 → a ≠ b → (TX2 a).2.1 ≠ (TX2 b).2.1 := by decide +kernel
theorem tyX2_ok : ∀ k, k < 1 → parseFieldDescriptor (TX2 k).2.2.1 = some (tyX2 k) := by decide +kernel
abbrev cX2_init : ByteArray := prog_4_method_1_code
def yX2_init : MethodName := ⟨RX2, "<init>", "()V"⟩
abbrev cX2_begin : ByteArray := prog_4_method_2_code
def yX2_begin : MethodName := ⟨RX2, "begin", "(J)V"⟩
abbrev cX2_next : ByteArray := prog_4_method_3_code
def yX2_next : MethodName := ⟨RX2, "next", "(I)I"⟩
def RX3 : String := "GunLine$Fleet"
def TX3 : u_T := fun k => match k with
  | 0 => ("GunLine$Fleet", "column", "[I", true)
  | 1 => ("GunLine$Fleet", "back", "[I", true)
  | 2 => ("GunLine$Fleet", "speed", "[I", true)
  | 3 => ("GunLine$Fleet", "most", "[I", true)
  | 4 => ("GunLine$Fleet", "slip", "[I", true)
  | 5 => ("GunLine$Fleet", "rule", "[I", true)
  | 6 => ("GunLine$Fleet", "mark", "[I", true)
  | 7 => ("GunLine$Fleet", "early", "[I", true)
  | 8 => ("GunLine$Fleet", "count", "I", false)
  | _ => ("GunLine$Fleet", "second", "I", false)
def tyX3 : Nat → FieldType := fun k => match k with
  | 0 => .array .int
  | 1 => .array .int
  | 2 => .array .int
  | 3 => .array .int
  | 4 => .array .int
  | 5 => .array .int
  | 6 => .array .int
  | 7 => .array .int
  | 8 => .int
  | _ => .int
abbrev wsX30 : List Cond := u_ws RX3 TX3 10
theorem nmX3 : ∀ a, a < 10 → ∀ b, b < 10 → a ≠ b → (TX3 a).2.1 ≠ (TX3 b).2.1 := by decide +kernel
theorem tyX3_ok : ∀ k, k < 10 → parseFieldDescriptor (TX3 k).2.2.1 = some (tyX3 k) := by decide +kernel
abbrev cX3_init : ByteArray := prog_5_method_1_code
def yX3_init : MethodName := ⟨RX3, "<init>", "()V"⟩
abbrev cX3_empty : ByteArray := prog_5_method_2_code
def yX3_empty : MethodName := ⟨RX3, "empty", "()V"⟩
abbrev cX3_join : ByteArray := prog_5_method_3_code
def yX3_join : MethodName := ⟨RX3, "join", "([I)V"⟩
abbrev cX3_setForDuel : ByteArray := prog_5_method_4_code
def yX3_setForDuel : MethodName := ⟨RX3, "setForDuel", "(II)V"⟩
abbrev cX3_joinDuel : ByteArray := prog_5_method_5_code
def yX3_joinDuel : MethodName := ⟨RX3, "joinDuel", "(II)V"⟩
abbrev cX3_copyFrom : ByteArray := prog_5_method_6_code
def yX3_copyFrom : MethodName := ⟨RX3, "copyFrom", "(LGunLine$Fleet;)V"⟩
abbrev cX3_writeTo : ByteArray := prog_5_method_7_code
def yX3_writeTo : MethodName := ⟨RX3, "writeTo", "([II)V"⟩
abbrev cX3_readFrom : ByteArray := prog_5_method_8_code
def yX3_readFrom : MethodName := ⟨RX3, "readFrom", "([II)V"⟩
abbrev cX3_scatter : ByteArray := prog_5_method_9_code
def yX3_scatter : MethodName := ⟨RX3, "scatter", "(LGunLine$Draws;I)V"⟩
abbrev cX3_isRowFull : ByteArray := prog_5_method_10_code
def yX3_isRowFull : MethodName := ⟨RX3, "isRowFull", "(II)Z"⟩
abbrev cX3_isHeld : ByteArray := prog_5_method_11_code
def yX3_isHeld : MethodName := ⟨RX3, "isHeld", "(II)Z"⟩
abbrev cX3_isLeewardHeld : ByteArray := prog_5_method_12_code
def yX3_isLeewardHeld : MethodName := ⟨RX3, "isLeewardHeld", "(I)Z"⟩
abbrev cX3_isShadowed : ByteArray := prog_5_method_13_code
def yX3_isShadowed : MethodName := ⟨RX3, "isShadowed", "(I)Z"⟩
abbrev cX3_countBeside : ByteArray := prog_5_method_14_code
def yX3_countBeside : MethodName := ⟨RX3, "countBeside", "(I)I"⟩
abbrev cX3_isBeside : ByteArray := prog_5_method_15_code
def yX3_isBeside : MethodName := ⟨RX3, "isBeside", "(II)Z"⟩
abbrev cX3_believedBack : ByteArray := prog_5_method_16_code
def yX3_believedBack : MethodName := ⟨RX3, "believedBack", "(I)I"⟩
abbrev cX3_speedUp : ByteArray := prog_5_method_17_code
def yX3_speedUp : MethodName := ⟨RX3, "speedUp", "(I)V"⟩
abbrev cX3_slowDown : ByteArray := prog_5_method_18_code
def yX3_slowDown : MethodName := ⟨RX3, "slowDown", "(I)V"⟩
def RX4 : String := "GunLine$Mover"
def TX4 : u_T := fun k => match k with
  | 0 => ("GunLine$Mover", "rules", "LGunLine$RuleBook;", true)
  | 1 => ("GunLine$Mover", "letters", "[I", true)
  | 2 => ("GunLine$Mover", "shadow", "[I", true)
  | _ => ("GunLine$Mover", "order", "[I", true)
def tyX4 : Nat → FieldType := fun k => match k with
  | 0 => .object "GunLine$RuleBook"
  | 1 => .array .int
  | 2 => .array .int
  | _ => .array .int
abbrev wsX40 : List Cond := u_ws RX4 TX4 4
theorem nmX4 : ∀ a, a < 4 → ∀ b, b < 4 → a ≠ b → (TX4 a).2.1 ≠ (TX4 b).2.1 := by decide +kernel
theorem tyX4_ok : ∀ k, k < 4 → parseFieldDescriptor (TX4 k).2.2.1 = some (tyX4 k) := by decide +kernel
abbrev cX4_init : ByteArray := prog_6_method_1_code
def yX4_init : MethodName := ⟨RX4, "<init>", "(LGunLine$RuleBook;)V"⟩
abbrev cX4_passSecond : ByteArray := prog_6_method_2_code
def yX4_passSecond : MethodName := ⟨RX4, "passSecond", "(LGunLine$Course;LGunLine$Fleet;)V"⟩
abbrev cX4_passGustySecond : ByteArray := prog_6_method_3_code
def yX4_passGustySecond : MethodName := ⟨RX4, "passGustySecond", "(LGunLine$Course;LGunLine$Fleet;LGunLine$Draws;I)V"⟩
abbrev cX4_passToGun : ByteArray := prog_6_method_4_code
def yX4_passToGun : MethodName := ⟨RX4, "passToGun", "(LGunLine$Course;LGunLine$Fleet;)V"⟩
abbrev cX4_passHeldSecond : ByteArray := prog_6_method_5_code
def yX4_passHeldSecond : MethodName := ⟨RX4, "passHeldSecond", "(LGunLine$Course;LGunLine$Fleet;I)V"⟩
abbrev cX4_passToGunReleased : ByteArray := prog_6_method_6_code
def yX4_passToGunReleased : MethodName := ⟨RX4, "passToGunReleased", "(LGunLine$Course;LGunLine$Fleet;I)V"⟩
abbrev cX4_look : ByteArray := prog_6_method_7_code
def yX4_look : MethodName := ⟨RX4, "look", "(LGunLine$Fleet;)V"⟩
abbrev cX4_askRules : ByteArray := prog_6_method_8_code
def yX4_askRules : MethodName := ⟨RX4, "askRules", "(LGunLine$Course;LGunLine$Fleet;I)V"⟩
abbrev cX4_drawGusts : ByteArray := prog_6_method_9_code
def yX4_drawGusts : MethodName := ⟨RX4, "drawGusts", "(LGunLine$Fleet;LGunLine$Draws;I)V"⟩
abbrev cX4_moveAll : ByteArray := prog_6_method_10_code
def yX4_moveAll : MethodName := ⟨RX4, "moveAll", "(LGunLine$Course;LGunLine$Fleet;)V"⟩
abbrev cX4_comesNow : ByteArray := prog_6_method_11_code
def yX4_comesNow : MethodName := ⟨RX4, "comesNow", "(II)Z"⟩
abbrev cX4_sail : ByteArray := prog_6_method_12_code
def yX4_sail : MethodName := ⟨RX4, "sail", "(LGunLine$Fleet;I)V"⟩
abbrev cX4_driftAll : ByteArray := prog_6_method_13_code
def yX4_driftAll : MethodName := ⟨RX4, "driftAll", "(LGunLine$Course;LGunLine$Fleet;)V"⟩
abbrev cX4_noteEarly : ByteArray := prog_6_method_14_code
def yX4_noteEarly : MethodName := ⟨RX4, "noteEarly", "(LGunLine$Fleet;)V"⟩
def RX5 : String := "GunLine$Records"
def TX5 : u_T := fun k => match k with
  | 0 => ("GunLine$Records", "seen", "[I", true)
  | 1 => ("GunLine$Records", "least", "[I", true)
  | 2 => ("GunLine$Records", "most", "[I", true)
  | 3 => ("GunLine$Records", "points", "[I", true)
  | 4 => ("GunLine$Records", "pictures", "I", false)
  | _ => ("GunLine$Records", "races", "I", false)
def tyX5 : Nat → FieldType := fun k => match k with
  | 0 => .array .int
  | 1 => .array .int
  | 2 => .array .int
  | 3 => .array .int
  | 4 => .int
  | _ => .int
abbrev wsX50 : List Cond := u_ws RX5 TX5 6
theorem nmX5 : ∀ a, a < 6 → ∀ b, b < 6 → a ≠ b → (TX5 a).2.1 ≠ (TX5 b).2.1 := by decide +kernel
theorem tyX5_ok : ∀ k, k < 6 → parseFieldDescriptor (TX5 k).2.2.1 = some (tyX5 k) := by decide +kernel
abbrev cX5_init : ByteArray := prog_7_method_1_code
def yX5_init : MethodName := ⟨RX5, "<init>", "()V"⟩
abbrev cX5_forget : ByteArray := prog_7_method_2_code
def yX5_forget : MethodName := ⟨RX5, "forget", "()V"⟩
abbrev cX5_canSee : ByteArray := prog_7_method_3_code
def yX5_canSee : MethodName := ⟨RX5, "canSee", "(II)Z"⟩
abbrev cX5_addPicture : ByteArray := prog_7_method_4_code
def yX5_addPicture : MethodName := ⟨RX5, "addPicture", "(III)I"⟩
abbrev cX5_isSeen : ByteArray := prog_7_method_5_code
def yX5_isSeen : MethodName := ⟨RX5, "isSeen", "(II)Z"⟩
abbrev cX5_addRace : ByteArray := prog_7_method_6_code
def yX5_addRace : MethodName := ⟨RX5, "addRace", "(LGunLine$Course;LGunLine$Fleet;)I"⟩
def RX6 : String := "GunLine$RuleBook"
def TX6 : u_T := fun k => match k with
  | 0 => ("GunLine$RuleBook", "codes", "[[I", true)
  | 1 => ("GunLine$RuleBook", "sizes", "[I", true)
  | 2 => ("GunLine$RuleBook", "pile", "[I", true)
  | _ => ("GunLine$RuleBook", "count", "I", false)
def tyX6 : Nat → FieldType := fun k => match k with
  | 0 => .array (.array .int)
  | 1 => .array .int
  | 2 => .array .int
  | _ => .int
abbrev wsX60 : List Cond := u_ws RX6 TX6 4
theorem nmX6 : ∀ a, a < 4 → ∀ b, b < 4 → a ≠ b → (TX6 a).2.1 ≠ (TX6 b).2.1 := by decide +kernel
theorem tyX6_ok : ∀ k, k < 4 → parseFieldDescriptor (TX6 k).2.2.1 = some (tyX6 k) := by decide +kernel
abbrev cX6_init : ByteArray := prog_8_method_1_code
def yX6_init : MethodName := ⟨RX6, "<init>", "()V"⟩
abbrev cX6_has : ByteArray := prog_8_method_2_code
def yX6_has : MethodName := ⟨RX6, "has", "(I)Z"⟩
abbrev cX6_add : ByteArray := prog_8_method_3_code
def yX6_add : MethodName := ⟨RX6, "add", "([II)I"⟩
abbrev cX6_worthOf : ByteArray := prog_8_method_4_code
def yX6_worthOf : MethodName := ⟨RX6, "worthOf", "(I[I)I"⟩
abbrev cX6_letterAt : ByteArray := prog_8_method_5_code
def yX6_letterAt : MethodName := ⟨RX6, "letterAt", "([II)I"⟩
abbrev cX6_join : ByteArray := prog_8_method_6_code
def yX6_join : MethodName := ⟨RX6, "join", "(III)J"⟩
abbrev cX6_bounded : ByteArray := prog_8_method_7_code
def yX6_bounded : MethodName := ⟨RX6, "bounded", "(J)I"⟩
def RX7 : String := "GunLine$RuleReader"
def TX7 : u_T := fun k => match k with
  | 0 => ("GunLine$RuleReader", "tape", "LGunLine$Tape;", true)
  | 1 => ("GunLine$RuleReader", "code", "[I", true)
  | _ => ("GunLine$RuleReader", "size", "I", false)
def tyX7 : Nat → FieldType := fun k => match k with
  | 0 => .object "GunLine$Tape"
  | 1 => .array .int
  | _ => .int
abbrev wsX70 : List Cond := u_ws RX7 TX7 3
theorem nmX7 : ∀ a, a < 3 → ∀ b, b < 3 → a ≠ b → (TX7 a).2.1 ≠ (TX7 b).2.1 := by decide +kernel
theorem tyX7_ok : ∀ k, k < 3 → parseFieldDescriptor (TX7 k).2.2.1 = some (tyX7 k) := by decide +kernel
abbrev cX7_init : ByteArray := prog_9_method_1_code
def yX7_init : MethodName := ⟨RX7, "<init>", "(LGunLine$Tape;)V"⟩
abbrev cX7_findFault : ByteArray := prog_9_method_2_code
def yX7_findFault : MethodName := ⟨RX7, "findFault", "()I"⟩
abbrev cX7_readClause : ByteArray := prog_9_method_3_code
def yX7_readClause : MethodName := ⟨RX7, "readClause", "()Z"⟩
abbrev cX7_readAnswer : ByteArray := prog_9_method_4_code
def yX7_readAnswer : MethodName := ⟨RX7, "readAnswer", "()Z"⟩
abbrev cX7_readCondition : ByteArray := prog_9_method_5_code
def yX7_readCondition : MethodName := ⟨RX7, "readCondition", "(IZ)Z"⟩
abbrev cX7_readTruth : ByteArray := prog_9_method_6_code
def yX7_readTruth : MethodName := ⟨RX7, "readTruth", "(IZ)Z"⟩
abbrev cX7_readUnit : ByteArray := prog_9_method_7_code
def yX7_readUnit : MethodName := ⟨RX7, "readUnit", "(IZ)Z"⟩
abbrev cX7_comparisonOf : ByteArray := prog_9_method_8_code
def yX7_comparisonOf : MethodName := ⟨RX7, "comparisonOf", "(I)I"⟩
abbrev cX7_readSum : ByteArray := prog_9_method_9_code
def yX7_readSum : MethodName := ⟨RX7, "readSum", "(I)Z"⟩
abbrev cX7_readTerm : ByteArray := prog_9_method_10_code
def yX7_readTerm : MethodName := ⟨RX7, "readTerm", "(I)Z"⟩
abbrev cX7_readAtom : ByteArray := prog_9_method_11_code
def yX7_readAtom : MethodName := ⟨RX7, "readAtom", "(I)Z"⟩
abbrev cX7_emit : ByteArray := prog_9_method_12_code
def yX7_emit : MethodName := ⟨RX7, "emit", "(I)V"⟩
def RX8 : String := "GunLine$Tape"
def TX8 : u_T := fun k => match k with
  | 0 => ("GunLine$Tape", "bytes", "[I", true)
  | 1 => ("GunLine$Tape", "length", "I", false)
  | _ => ("GunLine$Tape", "at", "I", false)
def tyX8 : Nat → FieldType := fun k => match k with
  | 0 => .array .int
  | 1 => .int
  | _ => .int
abbrev wsX80 : List Cond := u_ws RX8 TX8 3
theorem nmX8 : ∀ a, a < 3 → ∀ b, b < 3 → a ≠ b → (TX8 a).2.1 ≠ (TX8 b).2.1 := by decide +kernel
theorem tyX8_ok : ∀ k, k < 3 → parseFieldDescriptor (TX8 k).2.2.1 = some (tyX8 k) := by decide +kernel
abbrev cX8_init : ByteArray := prog_10_method_1_code
def yX8_init : MethodName := ⟨RX8, "<init>", "()V"⟩
abbrev cX8_bytesOf : ByteArray := prog_10_method_2_code
def yX8_bytesOf : MethodName := ⟨RX8, "bytesOf", "(I)I"⟩
abbrev cX8_append : ByteArray := prog_10_method_3_code
def yX8_append : MethodName := ⟨RX8, "append", "(I)V"⟩
abbrev cX8_rewind : ByteArray := prog_10_method_4_code
def yX8_rewind : MethodName := ⟨RX8, "rewind", "()V"⟩
abbrev cX8_rawSign : ByteArray := prog_10_method_5_code
def yX8_rawSign : MethodName := ⟨RX8, "rawSign", "()I"⟩
abbrev cX8_nextSign : ByteArray := prog_10_method_6_code
def yX8_nextSign : MethodName := ⟨RX8, "nextSign", "()I"⟩
abbrev cX8_take : ByteArray := prog_10_method_7_code
def yX8_take : MethodName := ⟨RX8, "take", "(I)Z"⟩
abbrev cX8_takeNumber : ByteArray := prog_10_method_8_code
def yX8_takeNumber : MethodName := ⟨RX8, "takeNumber", "(I)I"⟩
abbrev cX8_isDigit : ByteArray := prog_10_method_9_code
def yX8_isDigit : MethodName := ⟨RX8, "isDigit", "(I)Z"⟩
abbrev cX8_indexIn : ByteArray := prog_10_method_10_code
def yX8_indexIn : MethodName := ⟨RX8, "indexIn", "(Ljava/lang/String;I)I"⟩
def RX9 : String := "GunLine$Thirds"
def TX9 : u_T := fun k => match k with
  | 0 => ("GunLine$Thirds", "choice", "[I", true)
  | 1 => ("GunLine$Thirds", "crowd", "[I", true)
  | 2 => ("GunLine$Thirds", "worth", "[I", true)
  | 3 => ("GunLine$Thirds", "players", "I", false)
  | _ => ("GunLine$Thirds", "rowCount", "I", false)
def tyX9 : Nat → FieldType := fun k => match k with
  | 0 => .array .int
  | 1 => .array .int
  | 2 => .array .int
  | 3 => .int
  | _ => .int
abbrev wsX90 : List Cond := u_ws RX9 TX9 5
theorem nmX9 : ∀ a, a < 5 → ∀ b, b < 5 → a ≠ b → (TX9 a).2.1 ≠ (TX9 b).2.1 := by decide +kernel
theorem tyX9_ok : ∀ k, k < 5 → parseFieldDescriptor (TX9 k).2.2.1 = some (tyX9 k) := by decide +kernel
abbrev cX9_init : ByteArray := prog_11_method_1_code
def yX9_init : MethodName := ⟨RX9, "<init>", "()V"⟩
abbrev cX9_set : ByteArray := prog_11_method_2_code
def yX9_set : MethodName := ⟨RX9, "set", "(III)V"⟩
abbrev cX9_countRests : ByteArray := prog_11_method_3_code
def yX9_countRests : MethodName := ⟨RX9, "countRests", "()I"⟩
abbrev cX9_findRest : ByteArray := prog_11_method_4_code
def yX9_findRest : MethodName := ⟨RX9, "findRest", "(I)I"⟩
abbrev cX9_fullestOfFirstRest : ByteArray := prog_11_method_5_code
def yX9_fullestOfFirstRest : MethodName := ⟨RX9, "fullestOfFirstRest", "()I"⟩
abbrev cX9_isRest : ByteArray := prog_11_method_6_code
def yX9_isRest : MethodName := ⟨RX9, "isRest", "(I)Z"⟩
abbrev cX9_spell : ByteArray := prog_11_method_7_code
def yX9_spell : MethodName := ⟨RX9, "spell", "(I)V"⟩
abbrev cX9_digits : ByteArray := prog_11_method_8_code
def yX9_digits : MethodName := ⟨RX9, "digits", "()I"⟩
def RX10 : String := "GunLine$WaterReader"
def TX10 : u_T := fun k => match k with
  | 0 => ("GunLine$WaterReader", "tape", "LGunLine$Tape;", true)
  | 1 => ("GunLine$WaterReader", "items", "[I", true)
  | 2 => ("GunLine$WaterReader", "hasLine", "Z", false)
  | 3 => ("GunLine$WaterReader", "course", "LGunLine$Course;", true)
  | _ => ("GunLine$WaterReader", "fleet", "LGunLine$Fleet;", true)
def tyX10 : Nat → FieldType := fun k => match k with
  | 0 => .object "GunLine$Tape"
  | 1 => .array .int
  | 2 => .boolean
  | 3 => .object "GunLine$Course"
  | _ => .object "GunLine$Fleet"
abbrev wsX100 : List Cond := u_ws RX10 TX10 5
theorem nmX10 : ∀ a, a < 5 → ∀ b, b < 5 → a ≠ b → (TX10 a).2.1 ≠ (TX10 b).2.1 := by decide +kernel
theorem tyX10_ok : ∀ k, k < 5 → parseFieldDescriptor (TX10 k).2.2.1 = some (tyX10 k) := by decide +kernel
abbrev cX10_init : ByteArray := prog_12_method_1_code
def yX10_init : MethodName := ⟨RX10, "<init>", "(LGunLine$Tape;)V"⟩
abbrev cX10_findFault : ByteArray := prog_12_method_2_code
def yX10_findFault : MethodName := ⟨RX10, "findFault", "()I"⟩
abbrev cX10_readClause : ByteArray := prog_12_method_3_code
def yX10_readClause : MethodName := ⟨RX10, "readClause", "()Z"⟩
abbrev cX10_readLine : ByteArray := prog_12_method_4_code
def yX10_readLine : MethodName := ⟨RX10, "readLine", "()Z"⟩
abbrev cX10_readBoat : ByteArray := prog_12_method_5_code
def yX10_readBoat : MethodName := ⟨RX10, "readBoat", "()Z"⟩
abbrev cX10_readItems : ByteArray := prog_12_method_6_code
def yX10_readItems : MethodName := ⟨RX10, "readItems", "(Ljava/lang/String;[I[I[I)Z"⟩
abbrev cX10_fits : ByteArray := prog_12_method_7_code
def yX10_fits : MethodName := ⟨RX10, "fits", "()Z"⟩
def RX11 : String := "GunLine"
def TX11 : u_T := fun k => match k with
  | 0 => ("GunLine", "tape", "LGunLine$Tape;", true)
  | 1 => ("GunLine", "rules", "LGunLine$RuleBook;", true)
  | 2 => ("GunLine", "waterReader", "LGunLine$WaterReader;", true)
  | 3 => ("GunLine", "ruleReader", "LGunLine$RuleReader;", true)
  | 4 => ("GunLine", "course", "LGunLine$Course;", true)
  | 5 => ("GunLine", "trialCourse", "LGunLine$Course;", true)
  | 6 => ("GunLine", "told", "LGunLine$Fleet;", true)
  | 7 => ("GunLine", "fleet", "LGunLine$Fleet;", true)
  | 8 => ("GunLine", "trial", "LGunLine$Fleet;", true)
  | 9 => ("GunLine", "holding", "LGunLine$Fleet;", true)
  | 10 => ("GunLine", "kept", "LGunLine$Fleet;", true)
  | 11 => ("GunLine", "mover", "LGunLine$Mover;", true)
  | 12 => ("GunLine", "draws", "LGunLine$Draws;", true)
  | 13 => ("GunLine", "acts", "LGunLine$Acts;", true)
  | 14 => ("GunLine", "thirds", "LGunLine$Thirds;", true)
  | 15 => ("GunLine", "records", "LGunLine$Records;", true)
  | 16 => ("GunLine", "hasImage", "Z", false)
  | _ => ("GunLine", "gustNow", "I", false)
def tyX11 : Nat → FieldType := fun k => match k with
  | 0 => .object "GunLine$Tape"
  | 1 => .object "GunLine$RuleBook"
  | 2 => .object "GunLine$WaterReader"
  | 3 => .object "GunLine$RuleReader"
  | 4 => .object "GunLine$Course"
  | 5 => .object "GunLine$Course"
  | 6 => .object "GunLine$Fleet"
  | 7 => .object "GunLine$Fleet"
  | 8 => .object "GunLine$Fleet"
  | 9 => .object "GunLine$Fleet"
  | 10 => .object "GunLine$Fleet"
  | 11 => .object "GunLine$Mover"
  | 12 => .object "GunLine$Draws"
  | 13 => .object "GunLine$Acts"
  | 14 => .object "GunLine$Thirds"
  | 15 => .object "GunLine$Records"
  | 16 => .boolean
  | _ => .int
abbrev wsX110 : List Cond := u_ws RX11 TX11 18
theorem nmX11 : ∀ a, a < 18 → ∀ b, b < 18 → a ≠ b → (TX11 a).2.1 ≠ (TX11 b).2.1 := by decide +kernel
theorem tyX11_ok : ∀ k, k < 18 → parseFieldDescriptor (TX11 k).2.2.1 = some (tyX11 k) := by decide +kernel
abbrev cX11_init : ByteArray := prog_1_method_1_code
def yX11_init : MethodName := ⟨RX11, "<init>", "()V"⟩
abbrev cX11_feed : ByteArray := prog_1_method_2_code
def yX11_feed : MethodName := ⟨RX11, "feed", "(IIIII)I"⟩
abbrev cX11_end : ByteArray := prog_1_method_3_code
def yX11_end : MethodName := ⟨RX11, "end", "(I)Z"⟩
abbrev cX11_fault : ByteArray := prog_1_method_4_code
def yX11_fault : MethodName := ⟨RX11, "fault", "(I)I"⟩
abbrev cX11_text : ByteArray := prog_1_method_5_code
def yX11_text : MethodName := ⟨RX11, "text", "(I)I"⟩
abbrev cX11_takeWater : ByteArray := prog_1_method_6_code
def yX11_takeWater : MethodName := ⟨RX11, "takeWater", "()I"⟩
abbrev cX11_takeRule : ByteArray := prog_1_method_7_code
def yX11_takeRule : MethodName := ⟨RX11, "takeRule", "()I"⟩
abbrev cX11_boat : ByteArray := prog_1_method_8_code
def yX11_boat : MethodName := ⟨RX11, "boat", "(II)I"⟩
abbrev cX11_line : ByteArray := prog_1_method_9_code
def yX11_line : MethodName := ⟨RX11, "line", "(I)I"⟩
abbrev cX11_rule : ByteArray := prog_1_method_10_code
def yX11_rule : MethodName := ⟨RX11, "rule", "(II)I"⟩
abbrev cX11_mark : ByteArray := prog_1_method_11_code
def yX11_mark : MethodName := ⟨RX11, "mark", "(I)I"⟩
abbrev cX11_speed : ByteArray := prog_1_method_12_code
def yX11_speed : MethodName := ⟨RX11, "speed", "(II)I"⟩
abbrev cX11_steer : ByteArray := prog_1_method_13_code
def yX11_steer : MethodName := ⟨RX11, "steer", "(II)I"⟩
abbrev cX11_gust : ByteArray := prog_1_method_14_code
def yX11_gust : MethodName := ⟨RX11, "gust", "(I)Z"⟩
abbrev cX11_go : ByteArray := prog_1_method_15_code
def yX11_go : MethodName := ⟨RX11, "go", "(I)I"⟩
abbrev cX11_blow : ByteArray := prog_1_method_16_code
def yX11_blow : MethodName := ⟨RX11, "blow", "(IJ)I"⟩
abbrev cX11_canPass : ByteArray := prog_1_method_17_code
def yX11_canPass : MethodName := ⟨RX11, "canPass", "(I)Z"⟩
abbrev cX11_undo : ByteArray := prog_1_method_18_code
def yX11_undo : MethodName := ⟨RX11, "undo", "()I"⟩
abbrev cX11_ahead : ByteArray := prog_1_method_19_code
def yX11_ahead : MethodName := ⟨RX11, "ahead", "(II)I"⟩
abbrev cX11_where : ByteArray := prog_1_method_20_code
def yX11_where : MethodName := ⟨RX11, "where", "(II)I"⟩
abbrev cX11_near : ByteArray := prog_1_method_21_code
def yX11_near : MethodName := ⟨RX11, "near", "(II)I"⟩
abbrev cX11_hold : ByteArray := prog_1_method_22_code
def yX11_hold : MethodName := ⟨RX11, "hold", "(II)I"⟩
abbrev cX11_row : ByteArray := prog_1_method_23_code
def yX11_row : MethodName := ⟨RX11, "row", "(II)I"⟩
abbrev cX11_scoreFrom : ByteArray := prog_1_method_24_code
def yX11_scoreFrom : MethodName := ⟨RX11, "scoreFrom", "(III)I"⟩
abbrev cX11_tides : ByteArray := prog_1_method_25_code
def yX11_tides : MethodName := ⟨RX11, "tides", "()I"⟩
abbrev cX11_sag : ByteArray := prog_1_method_26_code
def yX11_sag : MethodName := ⟨RX11, "sag", "(I)I"⟩
abbrev cX11_greatestCommon : ByteArray := prog_1_method_27_code
def yX11_greatestCommon : MethodName := ⟨RX11, "greatestCommon", "(II)I"⟩
abbrev cX11_heap : ByteArray := prog_1_method_28_code
def yX11_heap : MethodName := ⟨RX11, "heap", "(I)I"⟩
abbrev cX11_boatsIn : ByteArray := prog_1_method_29_code
def yX11_boatsIn : MethodName := ⟨RX11, "boatsIn", "(I)I"⟩
abbrev cX11_hole : ByteArray := prog_1_method_30_code
def yX11_hole : MethodName := ⟨RX11, "hole", "(I)I"⟩
abbrev cX11_keeps : ByteArray := prog_1_method_31_code
def yX11_keeps : MethodName := ⟨RX11, "keeps", "(I)I"⟩
abbrev cX11_which : ByteArray := prog_1_method_32_code
def yX11_which : MethodName := ⟨RX11, "which", "(I)I"⟩
abbrev cX11_isAmong : ByteArray := prog_1_method_33_code
def yX11_isAmong : MethodName := ⟨RX11, "isAmong", "(II)Z"⟩
abbrev cX11_rests : ByteArray := prog_1_method_34_code
def yX11_rests : MethodName := ⟨RX11, "rests", "(I)I"⟩
abbrev cX11_spread : ByteArray := prog_1_method_35_code
def yX11_spread : MethodName := ⟨RX11, "spread", "(I)I"⟩
abbrev cX11_duel : ByteArray := prog_1_method_36_code
def yX11_duel : MethodName := ⟨RX11, "duel", "(II)I"⟩
abbrev cX11_duelOf : ByteArray := prog_1_method_37_code
def yX11_duelOf : MethodName := ⟨RX11, "duelOf", "(II)I"⟩
abbrev cX11_reply : ByteArray := prog_1_method_38_code
def yX11_reply : MethodName := ⟨RX11, "reply", "(I)I"⟩
abbrev cX11_strong : ByteArray := prog_1_method_39_code
def yX11_strong : MethodName := ⟨RX11, "strong", "()I"⟩
abbrev cX11_picture : ByteArray := prog_1_method_40_code
def yX11_picture : MethodName := ⟨RX11, "picture", "(III)I"⟩
abbrev cX11_was : ByteArray := prog_1_method_41_code
def yX11_was : MethodName := ⟨RX11, "was", "(I)I"⟩
abbrev cX11_race : ByteArray := prog_1_method_42_code
def yX11_race : MethodName := ⟨RX11, "race", "()I"⟩
abbrev cX11_points : ByteArray := prog_1_method_43_code
def yX11_points : MethodName := ⟨RX11, "points", "(I)I"⟩
abbrev cX11_champion : ByteArray := prog_1_method_44_code
def yX11_champion : MethodName := ⟨RX11, "champion", "()I"⟩
abbrev cX11_season : ByteArray := prog_1_method_45_code
def yX11_season : MethodName := ⟨RX11, "season", "(IJ)I"⟩
abbrev cX11_flag : ByteArray := prog_1_method_46_code
def yX11_flag : MethodName := ⟨RX11, "flag", "(I)I"⟩
abbrev cX11_image : ByteArray := prog_1_method_47_code
def yX11_image : MethodName := ⟨RX11, "image", "()I"⟩
abbrev cX11_back : ByteArray := prog_1_method_48_code
def yX11_back : MethodName := ⟨RX11, "back", "()I"⟩
abbrev cX11_count : ByteArray := prog_1_method_49_code
def yX11_count : MethodName := ⟨RX11, "count", "(I)I"⟩
abbrev cX11_hasWater : ByteArray := prog_1_method_50_code
def yX11_hasWater : MethodName := ⟨RX11, "hasWater", "()Z"⟩
abbrev cX11_isBoat : ByteArray := prog_1_method_51_code
def yX11_isBoat : MethodName := ⟨RX11, "isBoat", "(I)Z"⟩
abbrev cX11_isChoice : ByteArray := prog_1_method_52_code
def yX11_isChoice : MethodName := ⟨RX11, "isChoice", "(I)Z"⟩
def RX12 : String := "GunLineModel"
def TX12 : u_T := fun k => match k with
  | 0 => ("GunLineModel", "thrown", "I", false)
  | 1 => ("GunLineModel", "tape", "[I", true)
  | 2 => ("GunLineModel", "size", "I", false)
  | 3 => ("GunLineModel", "at", "I", false)
  | 4 => ("GunLineModel", "wrong", "I", false)
  | 5 => ("GunLineModel", "deep", "I", false)
  | 6 => ("GunLineModel", "code", "[I", true)
  | 7 => ("GunLineModel", "value", "[I", true)
  | 8 => ("GunLineModel", "codes", "[I", true)
  | 9 => ("GunLineModel", "clauses", "[I", true)
  | 10 => ("GunLineModel", "testFrom", "[I", true)
  | 11 => ("GunLineModel", "sumFrom", "[I", true)
  | 12 => ("GunLineModel", "sumTo", "[I", true)
  | 13 => ("GunLineModel", "laws", "I", false)
  | 14 => ("GunLineModel", "text", "I", false)
  | 15 => ("GunLineModel", "letters", "[I", true)
  | 16 => ("GunLineModel", "stack", "[I", true)
  | 17 => ("GunLineModel", "readLine", "[I", true)
  | 18 => ("GunLineModel", "readBoat", "[I", true)
  | 19 => ("GunLineModel", "readBoats", "I", false)
  | 20 => ("GunLineModel", "line", "[I", true)
  | 21 => ("GunLineModel", "told", "[I", true)
  | 22 => ("GunLineModel", "boats", "I", false)
  | 23 => ("GunLineModel", "now", "[I", true)
  | 24 => ("GunLineModel", "gust", "I", false)
  | 25 => ("GunLineModel", "holder", "I", false)
  | 26 => ("GunLineModel", "holdsFor", "I", false)
  | 27 => ("GunLineModel", "shadowed", "[Z", true)
  | 28 => ("GunLineModel", "wasBack", "[I", true)
  | 29 => ("GunLineModel", "wants", "[I", true)
  | 30 => ("GunLineModel", "kept", "[I", true)
  | 31 => ("GunLineModel", "acts", "I", false)
  | 32 => ("GunLineModel", "draws", "J", false)
  | 33 => ("GunLineModel", "aside", "[I", true)
  | 34 => ("GunLineModel", "chooses", "[I", true)
  | 35 => ("GunLineModel", "lineWas", "[I", true)
  | 36 => ("GunLineModel", "toldWas", "[I", true)
  | 37 => ("GunLineModel", "pictureOf", "[I", true)
  | 38 => ("GunLineModel", "pictureFrom", "[I", true)
  | 39 => ("GunLineModel", "pictureTo", "[I", true)
  | 40 => ("GunLineModel", "pictures", "I", false)
  | 41 => ("GunLineModel", "book", "[I", true)
  | 42 => ("GunLineModel", "races", "I", false)
  | 43 => ("GunLineModel", "image", "[I", true)
  | _ => ("GunLineModel", "hasImage", "Z", false)
def tyX12 : Nat → FieldType := fun k => match k with
  | 0 => .int
  | 1 => .array .int
  | 2 => .int
  | 3 => .int
  | 4 => .int
  | 5 => .int
  | 6 => .array .int
  | 7 => .array .int
  | 8 => .array .int
  | 9 => .array .int
  | 10 => .array .int
  | 11 => .array .int
  | 12 => .array .int
  | 13 => .int
  | 14 => .int
  | 15 => .array .int
  | 16 => .array .int
  | 17 => .array .int
  | 18 => .array .int
  | 19 => .int
  | 20 => .array .int
  | 21 => .array .int
  | 22 => .int
  | 23 => .array .int
  | 24 => .int
  | 25 => .int
  | 26 => .int
  | 27 => .array .boolean
  | 28 => .array .int
  | 29 => .array .int
  | 30 => .array .int
  | 31 => .int
  | 32 => .long
  | 33 => .array .int
  | 34 => .array .int
  | 35 => .array .int
  | 36 => .array .int
  | 37 => .array .int
  | 38 => .array .int
  | 39 => .array .int
  | 40 => .int
  | 41 => .array .int
  | 42 => .int
  | 43 => .array .int
  | _ => .boolean
abbrev wsX120 : List Cond := u_ws RX12 TX12 45
theorem nmX12 : ∀ a, a < 45 → ∀ b, b < 45 → a ≠ b → (TX12 a).2.1 ≠ (TX12 b).2.1 := by decide +kernel
theorem tyX12_ok : ∀ k, k < 45 → parseFieldDescriptor (TX12 k).2.2.1 = some (tyX12 k) := by decide +kernel
abbrev cX12_in : ByteArray := prog_14_method_1_code
def yX12_in : MethodName := ⟨RX12, "in", "(III)Z"⟩
abbrev cX12_has : ByteArray := prog_14_method_2_code
def yX12_has : MethodName := ⟨RX12, "has", "(II)Z"⟩
abbrev cX12_init : ByteArray := prog_14_method_3_code
def yX12_init : MethodName := ⟨RX12, "<init>", "()V"⟩
abbrev cX12_thrown : ByteArray := prog_14_method_4_code
def yX12_thrown : MethodName := ⟨RX12, "thrown", "()I"⟩
abbrev cX12_byteOf : ByteArray := prog_14_method_5_code
def yX12_byteOf : MethodName := ⟨RX12, "byteOf", "(IIIIII)I"⟩
abbrev cX12_feed : ByteArray := prog_14_method_6_code
def yX12_feed : MethodName := ⟨RX12, "feed", "(IIIII)I"⟩
abbrev cX12_end : ByteArray := prog_14_method_7_code
def yX12_end : MethodName := ⟨RX12, "end", "(I)Z"⟩
abbrev cX12_here : ByteArray := prog_14_method_8_code
def yX12_here : MethodName := ⟨RX12, "here", "()I"⟩
abbrev cX12_look : ByteArray := prog_14_method_9_code
def yX12_look : MethodName := ⟨RX12, "look", "()I"⟩
abbrev cX12_bad : ByteArray := prog_14_method_10_code
def yX12_bad : MethodName := ⟨RX12, "bad", "()V"⟩
abbrev cX12_isDigit : ByteArray := prog_14_method_11_code
def yX12_isDigit : MethodName := ⟨RX12, "isDigit", "(I)Z"⟩
abbrev cX12_put : ByteArray := prog_14_method_12_code
def yX12_put : MethodName := ⟨RX12, "put", "(II)V"⟩
abbrev cX12_letterOf : ByteArray := prog_14_method_13_code
def yX12_letterOf : MethodName := ⟨RX12, "letterOf", "(I)I"⟩
abbrev cX12_opens : ByteArray := prog_14_method_14_code
def yX12_opens : MethodName := ⟨RX12, "opens", "()V"⟩
abbrev cX12_closes : ByteArray := prog_14_method_15_code
def yX12_closes : MethodName := ⟨RX12, "closes", "(I)V"⟩
abbrev cX12_plainNumber : ByteArray := prog_14_method_16_code
def yX12_plainNumber : MethodName := ⟨RX12, "plainNumber", "()I"⟩
abbrev cX12_atom : ByteArray := prog_14_method_17_code
def yX12_atom : MethodName := ⟨RX12, "atom", "()V"⟩
abbrev cX12_term : ByteArray := prog_14_method_18_code
def yX12_term : MethodName := ⟨RX12, "term", "()V"⟩
abbrev cX12_sum : ByteArray := prog_14_method_19_code
def yX12_sum : MethodName := ⟨RX12, "sum", "()V"⟩
abbrev cX12_isSign : ByteArray := prog_14_method_20_code
def yX12_isSign : MethodName := ⟨RX12, "isSign", "(I)Z"⟩
abbrev cX12_compare : ByteArray := prog_14_method_21_code
def yX12_compare : MethodName := ⟨RX12, "compare", "()V"⟩
abbrev cX12_unit : ByteArray := prog_14_method_22_code
def yX12_unit : MethodName := ⟨RX12, "unit", "()V"⟩
abbrev cX12_goOnAnd : ByteArray := prog_14_method_23_code
def yX12_goOnAnd : MethodName := ⟨RX12, "goOnAnd", "()V"⟩
abbrev cX12_goOnOr : ByteArray := prog_14_method_24_code
def yX12_goOnOr : MethodName := ⟨RX12, "goOnOr", "()V"⟩
abbrev cX12_condition : ByteArray := prog_14_method_25_code
def yX12_condition : MethodName := ⟨RX12, "condition", "()V"⟩
abbrev cX12_clause : ByteArray := prog_14_method_26_code
def yX12_clause : MethodName := ⟨RX12, "clause", "()V"⟩
abbrev cX12_open : ByteArray := prog_14_method_27_code
def yX12_open : MethodName := ⟨RX12, "open", "(I)V"⟩
abbrev cX12_atEnd : ByteArray := prog_14_method_28_code
def yX12_atEnd : MethodName := ⟨RX12, "atEnd", "()I"⟩
abbrev cX12_readLaw : ByteArray := prog_14_method_29_code
def yX12_readLaw : MethodName := ⟨RX12, "readLaw", "(I)I"⟩
abbrev cX12_bounded : ByteArray := prog_14_method_30_code
def yX12_bounded : MethodName := ⟨RX12, "bounded", "(J)I"⟩
abbrev cX12_worked : ByteArray := prog_14_method_31_code
def yX12_worked : MethodName := ⟨RX12, "worked", "(IJJ)I"⟩
abbrev cX12_workOut : ByteArray := prog_14_method_32_code
def yX12_workOut : MethodName := ⟨RX12, "workOut", "(III)I"⟩
abbrev cX12_worthOf : ByteArray := prog_14_method_33_code
def yX12_worthOf : MethodName := ⟨RX12, "worthOf", "(I)I"⟩
abbrev cX12_number : ByteArray := prog_14_method_34_code
def yX12_number : MethodName := ⟨RX12, "number", "(II)I"⟩
abbrev cX12_itemOf : ByteArray := prog_14_method_35_code
def yX12_itemOf : MethodName := ⟨RX12, "itemOf", "(II)I"⟩
abbrev cX12_lowest : ByteArray := prog_14_method_36_code
def yX12_lowest : MethodName := ⟨RX12, "lowest", "(II)I"⟩
abbrev cX12_highest : ByteArray := prog_14_method_37_code
def yX12_highest : MethodName := ⟨RX12, "highest", "(II)I"⟩
abbrev cX12_usual : ByteArray := prog_14_method_38_code
def yX12_usual : MethodName := ⟨RX12, "usual", "(II)I"⟩
abbrev cX12_items : ByteArray := prog_14_method_39_code
def yX12_items : MethodName := ⟨RX12, "items", "(I[III)V"⟩
abbrev cX12_isWhole : ByteArray := prog_14_method_40_code
def yX12_isWhole : MethodName := ⟨RX12, "isWhole", "(Z)Z"⟩
abbrev cX12_readWater : ByteArray := prog_14_method_41_code
def yX12_readWater : MethodName := ⟨RX12, "readWater", "()I"⟩
abbrev cX12_fault : ByteArray := prog_14_method_42_code
def yX12_fault : MethodName := ⟨RX12, "fault", "(I)I"⟩
abbrev cX12_takeWater : ByteArray := prog_14_method_43_code
def yX12_takeWater : MethodName := ⟨RX12, "takeWater", "()I"⟩
abbrev cX12_begin : ByteArray := prog_14_method_44_code
def yX12_begin : MethodName := ⟨RX12, "begin", "()V"⟩
abbrev cX12_text : ByteArray := prog_14_method_45_code
def yX12_text : MethodName := ⟨RX12, "text", "(I)I"⟩
abbrev cX12_of : ByteArray := prog_14_method_46_code
def yX12_of : MethodName := ⟨RX12, "of", "(II)I"⟩
abbrev cX12_put_ : ByteArray := prog_14_method_47_code
def yX12_put_ : MethodName := ⟨RX12, "put", "(III)V"⟩
abbrev cX12_isBoat : ByteArray := prog_14_method_48_code
def yX12_isBoat : MethodName := ⟨RX12, "isBoat", "(I)Z"⟩
abbrev cX12_most : ByteArray := prog_14_method_49_code
def yX12_most : MethodName := ⟨RX12, "most", "(I)I"⟩
abbrev cX12_leftSeconds : ByteArray := prog_14_method_50_code
def yX12_leftSeconds : MethodName := ⟨RX12, "leftSeconds", "()I"⟩
abbrev cX12_believed : ByteArray := prog_14_method_51_code
def yX12_believed : MethodName := ⟨RX12, "believed", "(I)I"⟩
abbrev cX12_isShadowed : ByteArray := prog_14_method_52_code
def yX12_isShadowed : MethodName := ⟨RX12, "isShadowed", "(I)Z"⟩
abbrev cX12_isHeld : ByteArray := prog_14_method_53_code
def yX12_isHeld : MethodName := ⟨RX12, "isHeld", "(II)Z"⟩
abbrev cX12_isLeewardHeld : ByteArray := prog_14_method_54_code
def yX12_isLeewardHeld : MethodName := ⟨RX12, "isLeewardHeld", "(I)Z"⟩
abbrev cX12_statusBy : ByteArray := prog_14_method_55_code
def yX12_statusBy : MethodName := ⟨RX12, "statusBy", "(II)I"⟩
abbrev cX12_scoreBy : ByteArray := prog_14_method_56_code
def yX12_scoreBy : MethodName := ⟨RX12, "scoreBy", "(II)I"⟩
abbrev cX12_scoreOf : ByteArray := prog_14_method_57_code
def yX12_scoreOf : MethodName := ⟨RX12, "scoreOf", "(I)I"⟩
abbrev cX12_placeBy : ByteArray := prog_14_method_58_code
def yX12_placeBy : MethodName := ⟨RX12, "placeBy", "(II)I"⟩
abbrev cX12_placeOf : ByteArray := prog_14_method_59_code
def yX12_placeOf : MethodName := ⟨RX12, "placeOf", "(I)I"⟩
abbrev cX12_boat : ByteArray := prog_14_method_60_code
def yX12_boat : MethodName := ⟨RX12, "boat", "(II)I"⟩
abbrev cX12_line : ByteArray := prog_14_method_61_code
def yX12_line : MethodName := ⟨RX12, "line", "(I)I"⟩
abbrev cX12_faster : ByteArray := prog_14_method_62_code
def yX12_faster : MethodName := ⟨RX12, "faster", "(II)V"⟩
abbrev cX12_wantsOf : ByteArray := prog_14_method_63_code
def yX12_wantsOf : MethodName := ⟨RX12, "wantsOf", "(I)I"⟩
abbrev cX12_speedAll : ByteArray := prog_14_method_64_code
def yX12_speedAll : MethodName := ⟨RX12, "speedAll", "()V"⟩
abbrev cX12_goOne : ByteArray := prog_14_method_65_code
def yX12_goOne : MethodName := ⟨RX12, "goOne", "(I)V"⟩
abbrev cX12_goAll : ByteArray := prog_14_method_66_code
def yX12_goAll : MethodName := ⟨RX12, "goAll", "()V"⟩
abbrev cX12_drift : ByteArray := prog_14_method_67_code
def yX12_drift : MethodName := ⟨RX12, "drift", "()V"⟩
abbrev cX12_pass : ByteArray := prog_14_method_68_code
def yX12_pass : MethodName := ⟨RX12, "pass", "()V"⟩
abbrev cX12_keep : ByteArray := prog_14_method_69_code
def yX12_keep : MethodName := ⟨RX12, "keep", "()I"⟩
abbrev cX12_rule : ByteArray := prog_14_method_70_code
def yX12_rule : MethodName := ⟨RX12, "rule", "(II)I"⟩
abbrev cX12_mark : ByteArray := prog_14_method_71_code
def yX12_mark : MethodName := ⟨RX12, "mark", "(I)I"⟩
abbrev cX12_speed : ByteArray := prog_14_method_72_code
def yX12_speed : MethodName := ⟨RX12, "speed", "(II)I"⟩
abbrev cX12_steer : ByteArray := prog_14_method_73_code
def yX12_steer : MethodName := ⟨RX12, "steer", "(II)I"⟩
abbrev cX12_gust : ByteArray := prog_14_method_74_code
def yX12_gust : MethodName := ⟨RX12, "gust", "(I)Z"⟩
abbrev cX12_areSeconds : ByteArray := prog_14_method_75_code
def yX12_areSeconds : MethodName := ⟨RX12, "areSeconds", "(I)Z"⟩
abbrev cX12_go : ByteArray := prog_14_method_76_code
def yX12_go : MethodName := ⟨RX12, "go", "(I)I"⟩
abbrev cX12_draw : ByteArray := prog_14_method_77_code
def yX12_draw : MethodName := ⟨RX12, "draw", "(I)I"⟩
abbrev cX12_blow : ByteArray := prog_14_method_78_code
def yX12_blow : MethodName := ⟨RX12, "blow", "(IJ)I"⟩
abbrev cX12_undo : ByteArray := prog_14_method_79_code
def yX12_undo : MethodName := ⟨RX12, "undo", "()I"⟩
abbrev cX12_putAside : ByteArray := prog_14_method_80_code
def yX12_putAside : MethodName := ⟨RX12, "putAside", "()V"⟩
abbrev cX12_takeBack : ByteArray := prog_14_method_81_code
def yX12_takeBack : MethodName := ⟨RX12, "takeBack", "()V"⟩
abbrev cX12_toGun : ByteArray := prog_14_method_82_code
def yX12_toGun : MethodName := ⟨RX12, "toGun", "()V"⟩
abbrev cX12_ahead : ByteArray := prog_14_method_83_code
def yX12_ahead : MethodName := ⟨RX12, "ahead", "(II)I"⟩
abbrev cX12_scoreAtGun : ByteArray := prog_14_method_84_code
def yX12_scoreAtGun : MethodName := ⟨RX12, "scoreAtGun", "(I)I"⟩
abbrev cX12_bestCell : ByteArray := prog_14_method_85_code
def yX12_bestCell : MethodName := ⟨RX12, "bestCell", "(IIII)I"⟩
abbrev cX12_where : ByteArray := prog_14_method_86_code
def yX12_where : MethodName := ⟨RX12, "where", "(II)I"⟩
abbrev cX12_near : ByteArray := prog_14_method_87_code
def yX12_near : MethodName := ⟨RX12, "near", "(II)I"⟩
abbrev cX12_hold : ByteArray := prog_14_method_88_code
def yX12_hold : MethodName := ⟨RX12, "hold", "(II)I"⟩
abbrev cX12_row : ByteArray := prog_14_method_89_code
def yX12_row : MethodName := ⟨RX12, "row", "(II)I"⟩
abbrev cX12_tides : ByteArray := prog_14_method_90_code
def yX12_tides : MethodName := ⟨RX12, "tides", "()I"⟩
abbrev cX12_thirdOf : ByteArray := prog_14_method_91_code
def yX12_thirdOf : MethodName := ⟨RX12, "thirdOf", "(I)I"⟩
abbrev cX12_divisor : ByteArray := prog_14_method_92_code
def yX12_divisor : MethodName := ⟨RX12, "divisor", "(II)I"⟩
abbrev cX12_sag : ByteArray := prog_14_method_93_code
def yX12_sag : MethodName := ⟨RX12, "sag", "(I)I"⟩
abbrev cX12_heap : ByteArray := prog_14_method_94_code
def yX12_heap : MethodName := ⟨RX12, "heap", "(I)I"⟩
abbrev cX12_hole : ByteArray := prog_14_method_95_code
def yX12_hole : MethodName := ⟨RX12, "hole", "(I)I"⟩
abbrev cX12_keeps : ByteArray := prog_14_method_96_code
def yX12_keeps : MethodName := ⟨RX12, "keeps", "(I)I"⟩
abbrev cX12_which : ByteArray := prog_14_method_97_code
def yX12_which : MethodName := ⟨RX12, "which", "(I)I"⟩
abbrev cX12_thirdWorth : ByteArray := prog_14_method_98_code
def yX12_thirdWorth : MethodName := ⟨RX12, "thirdWorth", "(III)I"⟩
abbrev cX12_layThirds : ByteArray := prog_14_method_99_code
def yX12_layThirds : MethodName := ⟨RX12, "layThirds", "(I)V"⟩
abbrev cX12_isRest : ByteArray := prog_14_method_100_code
def yX12_isRest : MethodName := ⟨RX12, "isRest", "(I)Z"⟩
abbrev cX12_rows : ByteArray := prog_14_method_101_code
def yX12_rows : MethodName := ⟨RX12, "rows", "()I"⟩
abbrev cX12_rests : ByteArray := prog_14_method_102_code
def yX12_rests : MethodName := ⟨RX12, "rests", "(I)I"⟩
abbrev cX12_fullest : ByteArray := prog_14_method_103_code
def yX12_fullest : MethodName := ⟨RX12, "fullest", "(I)I"⟩
abbrev cX12_spread : ByteArray := prog_14_method_104_code
def yX12_spread : MethodName := ⟨RX12, "spread", "(I)I"⟩
abbrev cX12_duelOf : ByteArray := prog_14_method_105_code
def yX12_duelOf : MethodName := ⟨RX12, "duelOf", "(II)I"⟩
abbrev cX12_isLaw : ByteArray := prog_14_method_106_code
def yX12_isLaw : MethodName := ⟨RX12, "isLaw", "(I)Z"⟩
abbrev cX12_duel : ByteArray := prog_14_method_107_code
def yX12_duel : MethodName := ⟨RX12, "duel", "(II)I"⟩
abbrev cX12_reply : ByteArray := prog_14_method_108_code
def yX12_reply : MethodName := ⟨RX12, "reply", "(I)I"⟩
abbrev cX12_sumOfDuels : ByteArray := prog_14_method_109_code
def yX12_sumOfDuels : MethodName := ⟨RX12, "sumOfDuels", "(I)I"⟩
abbrev cX12_strong : ByteArray := prog_14_method_110_code
def yX12_strong : MethodName := ⟨RX12, "strong", "()I"⟩
abbrev cX12_picture : ByteArray := prog_14_method_111_code
def yX12_picture : MethodName := ⟨RX12, "picture", "(III)I"⟩
abbrev cX12_wasSo : ByteArray := prog_14_method_112_code
def yX12_wasSo : MethodName := ⟨RX12, "wasSo", "(II)Z"⟩
abbrev cX12_was : ByteArray := prog_14_method_113_code
def yX12_was : MethodName := ⟨RX12, "was", "(I)I"⟩
abbrev cX12_write : ByteArray := prog_14_method_114_code
def yX12_write : MethodName := ⟨RX12, "write", "()V"⟩
abbrev cX12_race : ByteArray := prog_14_method_115_code
def yX12_race : MethodName := ⟨RX12, "race", "()I"⟩
abbrev cX12_pointsOf : ByteArray := prog_14_method_116_code
def yX12_pointsOf : MethodName := ⟨RX12, "pointsOf", "(I)I"⟩
abbrev cX12_points : ByteArray := prog_14_method_117_code
def yX12_points : MethodName := ⟨RX12, "points", "(I)I"⟩
abbrev cX12_champion : ByteArray := prog_14_method_118_code
def yX12_champion : MethodName := ⟨RX12, "champion", "()I"⟩
abbrev cX12_isHeldAhead : ByteArray := prog_14_method_119_code
def yX12_isHeldAhead : MethodName := ⟨RX12, "isHeldAhead", "(III)Z"⟩
abbrev cX12_drawCell : ByteArray := prog_14_method_120_code
def yX12_drawCell : MethodName := ⟨RX12, "drawCell", "(I)V"⟩
abbrev cX12_season : ByteArray := prog_14_method_121_code
def yX12_season : MethodName := ⟨RX12, "season", "(IJ)I"⟩
abbrev cX12_flag : ByteArray := prog_14_method_122_code
def yX12_flag : MethodName := ⟨RX12, "flag", "(I)I"⟩
abbrev cX12_image : ByteArray := prog_14_method_123_code
def yX12_image : MethodName := ⟨RX12, "image", "()I"⟩
abbrev cX12_back : ByteArray := prog_14_method_124_code
def yX12_back : MethodName := ⟨RX12, "back", "()I"⟩
abbrev cX12_count : ByteArray := prog_14_method_125_code
def yX12_count : MethodName := ⟨RX12, "count", "(I)I"⟩
def RL : String := "GunLineLaw"
abbrev cL_boat : ByteArray := method_3_code
def yL_boat : MethodName := ⟨RL, "boat", "(LGunLine;II[J)I"⟩
abbrev cL_law : ByteArray := code
def yL_law : MethodName := ⟨RL, "law", "([I)Z"⟩
abbrev vwCl : List vw_C := [(RX0, TX0, 3), (RX1, TX1, 1), (RX2, TX2, 1), (RX3, TX3, 10), (RX4, TX4, 4), (RX5, TX5, 6), (RX6, TX6, 4), (RX7, TX7, 3), (RX8, TX8, 3), (RX9, TX9, 5), (RX10, TX10, 5), (RX11, TX11, 18), (RX12, TX12, 45)]
end
section
/-! the small machine's tables: kinds of fields (0 int, 1 boolean, 2 long, 3 reference), fields and constants by class and pool number -/
def mj_kdT : List (List Nat) := [[3, 0, 0], [3], [2], [3, 3, 3, 3, 3, 3, 3, 3, 0, 0], [3, 3, 3, 3], [3, 3, 3, 3, 0, 0], [3, 3, 3, 0], [3, 3, 0], [3, 0, 0], [3, 3, 3, 0, 0], [3, 3, 1, 3, 3], [3, 3, 3, 3, 3, 3, 3, 3, 3, 3, 3, 3, 3, 3, 3, 3, 1, 0], [0, 3, 0, 0, 0, 0, 3, 3, 3, 3, 3, 3, 3, 0, 0, 3, 3, 3, 3, 0, 3, 3, 0, 3, 0, 0, 0, 3, 3, 3, 3, 0, 2, 3, 3, 3, 3, 3, 3, 3, 0, 3, 0, 3, 1]]
def mj_flT : List (List (Nat × Nat × Nat)) := [[(11, 0, 0), (19, 0, 1), (15, 0, 2)], [(9, 1, 0), (31, 3, 0), (28, 3, 1), (38, 3, 2), (25, 3, 7), (52, 3, 8), (19, 3, 9)], [(7, 2, 0)], [(9, 3, 0), (15, 3, 1), (18, 3, 2), (21, 3, 3), (24, 3, 4), (27, 3, 5), (30, 3, 6), (33, 3, 7), (36, 3, 8), (40, 3, 9)], [(110, 1, 0), (82, 3, 0), (69, 3, 1), (52, 3, 2), (72, 3, 5), (126, 3, 7), (61, 3, 8), (107, 3, 9), (23, 4, 0), (11, 4, 1), (17, 4, 2), (20, 4, 3)], [(31, 3, 8), (9, 5, 0), (15, 5, 1), (18, 5, 2), (21, 5, 3), (24, 5, 4), (28, 5, 5)], [(15, 6, 0), (18, 6, 1), (22, 6, 2), (25, 6, 3)], [(34, 8, 2), (17, 7, 0), (11, 7, 1), (26, 7, 2)], [(11, 8, 0), (15, 8, 1), (19, 8, 2)], [(11, 9, 0), (15, 9, 1), (18, 9, 2), (21, 9, 3), (25, 9, 4)], [(67, 8, 1), (49, 8, 2), (91, 1, 0), (133, 3, 0), (139, 3, 1), (127, 3, 2), (130, 3, 3), (61, 3, 8), (29, 10, 0), (11, 10, 1), (38, 10, 2), (18, 10, 3), (25, 10, 4)], [(109, 8, 1), (148, 6, 3), (208, 1, 0), (167, 3, 0), (170, 3, 1), (173, 3, 2), (176, 3, 3), (179, 3, 4), (182, 3, 5), (185, 3, 6), (188, 3, 7), (145, 3, 8), (232, 3, 9), (128, 10, 3), (133, 10, 4), (149, 7, 1), (153, 7, 2), (214, 0, 2), (328, 5, 3), (335, 5, 4), (321, 5, 5), (10, 11, 0), (19, 11, 1), (28, 11, 2), (35, 11, 3), (42, 11, 4), (46, 11, 5), (52, 11, 6), (56, 11, 7), (59, 11, 8), (62, 11, 9), (65, 11, 10), (73, 11, 11), (80, 11, 12), (87, 11, 13), (94, 11, 14), (101, 11, 15), (141, 11, 16), (222, 11, 17)], [(99, 12, 0), (9, 12, 1), (106, 12, 2), (109, 12, 3), (116, 12, 4), (122, 12, 5), (13, 12, 6), (16, 12, 7), (19, 12, 8), (22, 12, 9), (25, 12, 10), (28, 12, 11), (31, 12, 12), (280, 12, 13), (119, 12, 14), (34, 12, 15), (37, 12, 16), (40, 12, 17), (43, 12, 18), (238, 12, 19), (46, 12, 20), (49, 12, 21), (255, 12, 22), (52, 12, 23), (361, 12, 24), (55, 12, 25), (343, 12, 26), (59, 12, 27), (63, 12, 28), (66, 12, 29), (69, 12, 30), (267, 12, 31), (370, 12, 32), (72, 12, 33), (75, 12, 34), (78, 12, 35), (81, 12, 36), (84, 12, 37), (87, 12, 38), (90, 12, 39), (261, 12, 40), (93, 12, 41), (264, 12, 42), (96, 12, 43), (270, 12, 44)], []]
def mj_ldT : List (List (Nat × Int32)) := [[], [], [], [], [], [], [(53, 1000000), (56, (-1000000))], [], [], [], [], [(250, (-1000000))], [(381, (-1000000))], []]
def mj_l2T : List (List (Nat × Int64)) := [[], [], [(13, 6364136223846793005), (15, 1442695040888963407)], [], [], [], [(51, 1000000), (54, (-1000000))], [], [], [], [], [], [(189, (-1000000)), (191, 1000000), (374, 6364136223846793005), (376, 1442695040888963407)], [(76, 4294967295)]]
def mj_own : List String := [RX0, RX1, RX2, RX3, RX4, RX5, RX6, RX7, RX8, RX9, RX10, RX11, RX12, RL]
end
section
/-! ===== THE SMALL MACHINE: memory, locals, one straight instruction ===== -/
/-- shapes of the cells (0 int[], 1 boolean[], 2 long[], 3 int[][], 4 + class: an object); references; ints; longs -/
abbrev mj_M : Type := List (Nat × Nat) × List ((Nat × Nat) × Nat) × (Nat → Nat → Int32) × (Nat → Nat → Int64)
/-- the tables' numbers, the array classes, the first address, addresses of constants -/
abbrev mj_Om : Type := va_G × (Nat → ClassId) × Nat × (Nat → Nat)
def mj_q (Ω : mj_Om) (c : Nat) : Nat := if c < 1000 then Ω.2.2.1 + c else Ω.2.2.2 c
def mj_v (Ω : mj_Om) : Value → Value
  | .ref c => .ref (mj_q Ω c)
  | v => v
def mj_A (Ω : mj_Om) : Nat → Prop := fun a => Ω.2.2.1 ≤ a
def mj_kds (ci : Nat) : List Nat := mj_kdT.getD ci []
def mj_rf (M : mj_M) (c k : Nat) : Option Nat := M.2.1.lookup (c, k)
def mj_rv : Option Nat → Value
  | none => .null
  | some a => .ref a
def mj_fv (M : mj_M) (c kd k : Nat) : Value := match kd with
  | 2 => .long (M.2.2.2 c k)
  | 3 => mj_rv (mj_rf M c k)
  | _ => .int (M.2.2.1 c k)
def mj_fs (Ω : mj_Om) (M : mj_M) (c ci : Nat) : List Value := (mj_kds ci).mapIdx (fun k kd => mj_v Ω (mj_fv M c kd k))
def mj_cell (Ω : mj_Om) (M : mj_M) (c : Nat) (sh : Nat × Nat) : va_E := match sh.1 with
  | 0 => .inl (Ω.2.1 0, sh.2, .inl (M.2.2.1 c))
  | 1 => .inl (Ω.2.1 1, sh.2, .inl (M.2.2.1 c))
  | 2 => .inl (Ω.2.1 2, sh.2, .inr (.inl (M.2.2.2 c)))
  | 3 => .inl (Ω.2.1 3, sh.2, .inr (.inr (.inr (.inr (fun k => (mj_rf M c k).map (mj_q Ω))))))
  | k + 4 => .inr (k, mj_fs Ω M c k)
def mj_w (Ω : mj_Om) (M : mj_M) : va_W := M.1.mapIdx (fun c sh => (Ω.2.2.1 + c, mj_cell Ω M c sh))
abbrev mj_ty (Ω : mj_Om) : List (ClassId × FieldType) := [(Ω.2.1 0, .int), (Ω.2.1 1, .boolean), (Ω.2.1 2, .long), (Ω.2.1 3, .array .int)]
def mj_sh (M : mj_M) (c : Nat) : Option (Nat × Nat) := if c < 1000 then M.1[c]? else none
def mj_has (Ω : mj_Om) (ls : Array Slot) (nL : Nat) (L : List (Option Value)) : Prop := ls.size = nL ∧ lv_wf ls ∧ ∀ (i : Nat) (v : Value), L[i]? = some (some v) → ls[i]? = some (.val (mj_v Ω v))
def mj_l (Ω : mj_Om) (L : List (Option Value)) : List (Nat × Value) := (List.range L.length).filterMap (fun i => (L.getD i none).map (fun v => (i, mj_v Ω v)))
/-- memory changed at one int, at one long -/
def mj_ui (I : Nat → Nat → Int32) (c k : Nat) (x : Int32) : Nat → Nat → Int32 := fun a b => if a = c then (if b = k then x else I a b) else I a b
def mj_ul (J : Nat → Nat → Int64) (c k : Nat) (x : Int64) : Nat → Nat → Int64 := fun a b => if a = c then (if b = k then x else J a b) else J a b
theorem mj_w_at {Ω : mj_Om} {M : mj_M} {c : Nat} {sh : Nat × Nat} (h : mj_sh M c = some sh) : (mj_w Ω M)[c]? = some (mj_q Ω c, mj_cell Ω M c sh) := by
  unfold mj_sh at h
  by_cases hc : c < 1000
  · rw [if_pos hc] at h
    simp [mj_w, List.getElem?_mapIdx, h, mj_q, hc]
  · rw [if_neg hc] at h; cases h
theorem mj_D {Ω : mj_Om} {M : mj_M} : va_D (mj_A Ω) (mj_w Ω M) := by
  refine ⟨fun i j p q hi hj h => ?_, fun k q h => ?_⟩
  · simp only [mj_w, List.getElem?_mapIdx, Option.map_eq_some_iff] at hi hj
    obtain ⟨a, -, rfl⟩ := hi
    obtain ⟨b, -, rfl⟩ := hj
    simp only at h
    omega
  · simp only [mj_w, List.getElem?_mapIdx, Option.map_eq_some_iff] at h
    obtain ⟨a, -, rfl⟩ := h
    show Ω.2.2.1 ≤ Ω.2.2.1 + k
    omega
/-- a change of one cell -/
theorem mj_w_set {Ω : mj_Om} {M M' : mj_M} {c : Nat} {sh : Nat × Nat} (h : mj_sh M c = some sh) (h1 : M'.1 = M.1) (h2 : ∀ a s, a ≠ c → M.1[a]? = some s → mj_cell Ω M' a s = mj_cell Ω M a s) : (mj_w Ω M).set c (mj_q Ω c, mj_cell Ω M' c sh) = mj_w Ω M' := by
  have hc : c < 1000 := by
    unfold mj_sh at h
    by_cases hc : c < 1000
    · exact hc
    · rw [if_neg hc] at h; cases h
  have h' : M.1[c]? = some sh := by unfold mj_sh at h; rwa [if_pos hc] at h
  apply List.ext_getElem?
  intro i
  have hlen : c < (mj_w Ω M).length := by
    simp only [mj_w, List.length_mapIdx]
    exact (List.getElem?_eq_some_iff.mp h').1
  by_cases hi : i = c
  · subst hi
    rw [List.getElem?_set_self hlen]
    simp [mj_w, List.getElem?_mapIdx, h1, h', mj_q, hc]
  · rw [List.getElem?_set_ne (Ne.symm hi)]
    simp only [mj_w, List.getElem?_mapIdx, h1]
    cases hm : M.1[i]? with
    | none => rfl
    | some s =>
      simp only [Option.map_some]
      rw [h2 i s hi hm]
theorem mj_l_of {Ω : mj_Om} {ls : Array Slot} {nL : Nat} {L : List (Option Value)} (h : mj_has Ω ls nL L) : lv_has ls nL (mj_l Ω L) := by
  refine ⟨h.1, h.2.1, fun q hq => ?_⟩
  obtain ⟨i, hi, hv⟩ := List.mem_filterMap.mp hq
  have hlt := List.mem_range.mp hi
  cases hg : L.getD i none with
  | none => rw [hg] at hv; cases hv
  | some v =>
    rw [hg] at hv
    cases hv
    refine h.2.2 i v ?_
    rw [List.getD_eq_getElem?_getD] at hg
    cases he : L[i]? with
    | none => rw [he] at hg; cases hg
    | some z => rw [he] at hg; simp at hg; rw [hg]
def mj_ok1 (L : List (Option Value)) : Nat → Bool
  | 0 => true
  | j + 1 => match L.getD j none with
    | some v => v.category == 1
    | none => true
theorem mj_v_cat (Ω : mj_Om) (v : Value) : (mj_v Ω v).category = v.category := by cases v <;> rfl
theorem mj_st {Ω : mj_Om} {ls' : Array Slot} {nL i : Nat} {L : List (Option Value)} {v : Value} (hok : mj_ok1 L i = true) (h : lv_has ls' nL ((i, mj_v Ω v) :: (mj_l Ω L).filter (fun q => !(q.1 == i) && !(q.1 + 1 == i && q.2.category == 2)))) : mj_has Ω ls' nL (L.set i (some v)) := by
  refine ⟨h.1, h.2.1, fun j w hw => ?_⟩
  by_cases hj : j = i
  · subst hj
    have hlt : j < L.length := by
      have := (List.getElem?_eq_some_iff.mp hw).1
      simpa using this
    rw [List.getElem?_set_self hlt] at hw
    cases hw
    exact h.2.2 (j, mj_v Ω v) List.mem_cons_self
  · rw [List.getElem?_set_ne (Ne.symm hj)] at hw
    have hlt : j < L.length := (List.getElem?_eq_some_iff.mp hw).1
    have hg : L.getD j none = some w := by rw [List.getD_eq_getElem?_getD, hw]; rfl
    refine h.2.2 (j, mj_v Ω w) (List.mem_cons_of_mem _ (List.mem_filter.mpr ⟨List.mem_filterMap.mpr ⟨j, List.mem_range.mpr hlt, by rw [hg]; rfl⟩, ?_⟩))
    have h1 : (j == i) = false := by simpa using hj
    simp only [h1, Bool.not_false, Bool.true_and, Bool.not_eq_true']
    by_cases h2 : j + 1 = i
    · subst h2
      simp only [mj_ok1, hg, beq_iff_eq] at hok
      simp [mj_v_cat, hok]
    · simp [h2]
/-! one instruction that goes straight on: what it asks, and what it leaves to K -/
abbrev mj_S : Type := List (Option Value) × List Value × mj_M
def mj_ld (L : List (Option Value)) (k : Nat) : Option Value := (L.getD k none)
def mj_fl (o idx : Nat) : Option (Nat × Nat) := (mj_flT.getD o []).lookup idx
def mj_push (v : Value) (S : mj_S) (K : mj_S → Prop) : Prop := K (S.1, v :: S.2.1, S.2.2)
def mj_iload (k : Nat) (S : mj_S) (K : mj_S → Prop) : Prop := match mj_ld S.1 k with
  | some (.int x) => K (S.1, .int x :: S.2.1, S.2.2)
  | _ => False
def mj_lload (k : Nat) (S : mj_S) (K : mj_S → Prop) : Prop := match mj_ld S.1 k with
  | some (.long x) => K (S.1, .long x :: S.2.1, S.2.2)
  | _ => False
def mj_aload (k : Nat) (S : mj_S) (K : mj_S → Prop) : Prop := match mj_ld S.1 k with
  | some (.ref x) => K (S.1, .ref x :: S.2.1, S.2.2)
  | _ => False
def mj_put1 (nL k : Nat) (L : List (Option Value)) (v : Value) (K : List (Option Value) → Prop) : Prop := match mj_ok1 L k && decide (k < nL) with
  | true => K (L.set k (some v))
  | false => False
def mj_istore (nL k : Nat) (S : mj_S) (K : mj_S → Prop) : Prop := match S.2.1 with
  | .int x :: st => mj_put1 nL k S.1 (.int x) (fun L => K (L, st, S.2.2))
  | _ => False
def mj_astore (nL k : Nat) (S : mj_S) (K : mj_S → Prop) : Prop := match S.2.1 with
  | .ref x :: st => mj_put1 nL k S.1 (.ref x) (fun L => K (L, st, S.2.2))
  | _ => False
def mj_iinc (nL k : Nat) (n : Int) (S : mj_S) (K : mj_S → Prop) : Prop := match mj_ld S.1 k with
  | some (.int x) => mj_put1 nL k S.1 (.int (x + Int32.ofInt n)) (fun L => K (L, S.2.1, S.2.2))
  | _ => False
def mj_i1 (f : Int32 → Int32) (S : mj_S) (K : mj_S → Prop) : Prop := match S.2.1 with
  | .int x :: st => K (S.1, .int (f x) :: st, S.2.2)
  | _ => False
def mj_i2 (f : Int32 → Int32 → Int32) (S : mj_S) (K : mj_S → Prop) : Prop := match S.2.1 with
  | .int y :: .int x :: st => K (S.1, .int (f x y) :: st, S.2.2)
  | _ => False
def mj_i2n (f : Int32 → Int32 → Int32) (S : mj_S) (K : mj_S → Prop) : Prop := match S.2.1 with
  | .int y :: .int x :: st => ¬ y = 0 ∧ K (S.1, .int (f x y) :: st, S.2.2)
  | _ => False
def mj_l2 (f : Int64 → Int64 → Int64) (S : mj_S) (K : mj_S → Prop) : Prop := match S.2.1 with
  | .long y :: .long x :: st => K (S.1, .long (f x y) :: st, S.2.2)
  | _ => False
def mj_l2n (f : Int64 → Int64 → Int64) (S : mj_S) (K : mj_S → Prop) : Prop := match S.2.1 with
  | .long y :: .long x :: st => ¬ y = 0 ∧ K (S.1, .long (f x y) :: st, S.2.2)
  | _ => False
def mj_lsh (f : Int64 → Int32 → Int64) (S : mj_S) (K : mj_S → Prop) : Prop := match S.2.1 with
  | .int y :: .long x :: st => K (S.1, .long (f x y) :: st, S.2.2)
  | _ => False
def mj_lcmp (S : mj_S) (K : mj_S → Prop) : Prop := match S.2.1 with
  | .long y :: .long x :: st => K (S.1, .int (lg_cmp x y) :: st, S.2.2)
  | _ => False
def mj_i2l (S : mj_S) (K : mj_S → Prop) : Prop := match S.2.1 with
  | .int x :: st => K (S.1, .long x.toInt64 :: st, S.2.2)
  | _ => False
def mj_l2i (S : mj_S) (K : mj_S → Prop) : Prop := match S.2.1 with
  | .long x :: st => K (S.1, .int x.toInt32 :: st, S.2.2)
  | _ => False
def mj_dup (S : mj_S) (K : mj_S → Prop) : Prop := match S.2.1 with
  | .int x :: st => K (S.1, .int x :: .int x :: st, S.2.2)
  | .ref x :: st => K (S.1, .ref x :: .ref x :: st, S.2.2)
  | _ => False
def mj_dup2 (S : mj_S) (K : mj_S → Prop) : Prop := match S.2.1 with
  | .int x :: .ref y :: st => K (S.1, .int x :: .ref y :: .int x :: .ref y :: st, S.2.2)
  | .int x :: .int y :: st => K (S.1, .int x :: .int y :: .int x :: .int y :: st, S.2.2)
  | _ => False
def mj_pop (S : mj_S) (K : mj_S → Prop) : Prop := match S.2.1 with
  | .int _ :: st => K (S.1, st, S.2.2)
  | _ => False
def mj_get (o idx : Nat) (S : mj_S) (K : mj_S → Prop) : Prop := match S.2.1, mj_fl o idx with
  | .ref c :: st, some (ci, k) => match decide (mj_sh S.2.2 c = some (ci + 4, 0)) with
    | true => K (S.1, mj_fv S.2.2 c ((mj_kds ci).getD k 0) k :: st, S.2.2)
    | false => False
  | _, _ => False
def mj_put (o idx : Nat) (ini : Bool) (S : mj_S) (K : mj_S → Prop) : Prop := match S.2.1, mj_fl o idx with
  | .ref x :: .ref c :: st, some (ci, k) => match decide (mj_sh S.2.2 c = some (ci + 4, 0) ∧ (mj_kds ci).getD k 9 = 3 ∧ ini = true ∧ ci = o) with
    | true => K (S.1, st, S.2.2.1, ((c, k), x) :: S.2.2.2.1, S.2.2.2.2)
    | false => False
  | .int x :: .ref c :: st, some (ci, k) => match decide (mj_sh S.2.2 c = some (ci + 4, 0)), (mj_kds ci).getD k 9 with
    | true, 0 => K (S.1, st, S.2.2.1, S.2.2.2.1, mj_ui S.2.2.2.2.1 c k x, S.2.2.2.2.2)
    | true, 1 => (x = 0 ∨ x = 1) ∧ K (S.1, st, S.2.2.1, S.2.2.2.1, mj_ui S.2.2.2.2.1 c k x, S.2.2.2.2.2)
    | _, _ => False
  | .long x :: .ref c :: st, some (ci, k) => match decide (mj_sh S.2.2 c = some (ci + 4, 0)), (mj_kds ci).getD k 9 with
    | true, 2 => K (S.1, st, S.2.2.1, S.2.2.2.1, S.2.2.2.2.1, mj_ul S.2.2.2.2.2 c k x)
    | _, _ => False
  | _, _ => False
def mj_ial (S : mj_S) (K : mj_S → Prop) : Prop := match S.2.1 with
  | .int i :: .ref c :: st => match mj_sh S.2.2 c with
    | some (0, n) => vp_in i n ∧ K (S.1, .int (S.2.2.2.2.1 c i.toNatClampNeg) :: st, S.2.2)
    | _ => False
  | _ => False
def mj_lal (S : mj_S) (K : mj_S → Prop) : Prop := match S.2.1 with
  | .int i :: .ref c :: st => match mj_sh S.2.2 c with
    | some (2, n) => vp_in i n ∧ K (S.1, .long (S.2.2.2.2.2 c i.toNatClampNeg) :: st, S.2.2)
    | _ => False
  | _ => False
def mj_bal (S : mj_S) (K : mj_S → Prop) : Prop := match S.2.1 with
  | .int i :: .ref c :: st => match mj_sh S.2.2 c with
    | some (1, n) => vp_in i n ∧ K (S.1, .int (S.2.2.2.2.1 c i.toNatClampNeg) :: st, S.2.2)
    | _ => False
  | _ => False
def mj_ias (S : mj_S) (K : mj_S → Prop) : Prop := match S.2.1 with
  | .int x :: .int i :: .ref c :: st => match mj_sh S.2.2 c with
    | some (0, n) => vp_in i n ∧ K (S.1, st, S.2.2.1, S.2.2.2.1, mj_ui S.2.2.2.2.1 c i.toNatClampNeg x, S.2.2.2.2.2)
    | _ => False
  | _ => False
def mj_bas (S : mj_S) (K : mj_S → Prop) : Prop := match S.2.1 with
  | .int x :: .int i :: .ref c :: st => match mj_sh S.2.2 c with
    | some (1, n) => vp_in i n ∧ K (S.1, st, S.2.2.1, S.2.2.2.1, mj_ui S.2.2.2.2.1 c i.toNatClampNeg (vp_nar .boolean x), S.2.2.2.2.2)
    | _ => False
  | _ => False
def mj_las (S : mj_S) (K : mj_S → Prop) : Prop := match S.2.1 with
  | .long x :: .int i :: .ref c :: st => match mj_sh S.2.2 c with
    | some (2, n) => vp_in i n ∧ K (S.1, st, S.2.2.1, S.2.2.2.1, S.2.2.2.2.1, mj_ul S.2.2.2.2.2 c i.toNatClampNeg x)
    | _ => False
  | _ => False
def mj_aal (S : mj_S) (K : mj_S → Prop) : Prop := match S.2.1 with
  | .int i :: .ref c :: st => match mj_sh S.2.2 c with
    | some (3, n) => vp_in i n ∧ K (S.1, mj_rv (mj_rf S.2.2 c i.toNatClampNeg) :: st, S.2.2)
    | _ => False
  | _ => False
def mj_alen (S : mj_S) (K : mj_S → Prop) : Prop := match S.2.1 with
  | .ref c :: st => match mj_sh S.2.2 c with
    | some (0, n) => K (S.1, .int (Int32.ofNat n) :: st, S.2.2)
    | _ => False
  | _ => False
def mj_ldc (o idx : Nat) (S : mj_S) (K : mj_S → Prop) : Prop := match (mj_ldT.getD o []).lookup idx with
  | some x => K (S.1, .int x :: S.2.1, S.2.2)
  | none => False
def mj_ldc2 (o idx : Nat) (S : mj_S) (K : mj_S → Prop) : Prop := match (mj_l2T.getD o []).lookup idx with
  | some x => K (S.1, .long x :: S.2.1, S.2.2)
  | none => False
/-- the whole: o the class, ini a constructor, nL locals -/
def mj_stp (o : Nat) (ini : Bool) (nL : Nat) (i : Instr) (S : mj_S) (K : mj_S → Prop) : Prop := match i with
  | .iconst n => mj_push (.int (Int32.ofInt n)) S K
  | .bipush n => mj_push (.int (Int8.ofInt n).toInt32) S K
  | .sipush n => mj_push (.int (Int16.ofInt n).toInt32) S K
  | .lconst n => mj_push (.long (Int64.ofNat (n : Nat))) S K
  | .ldc k => mj_ldc o k S K
  | .ldc_w k => mj_ldc o k S K
  | .ldc2_w k => mj_ldc2 o k S K
  | .iload_n k => mj_iload k S K
  | .iload k => mj_iload k S K
  | .lload_n k => mj_lload k S K
  | .lload k => mj_lload k S K
  | .aload_n k => mj_aload k S K
  | .aload k => mj_aload k S K
  | .istore_n k => mj_istore nL k S K
  | .istore k => mj_istore nL k S K
  | .astore_n k => mj_astore nL k S K
  | .astore k => mj_astore nL k S K
  | .iinc k n => mj_iinc nL k n S K
  | .iadd => mj_i2 (fun x y => x + y) S K
  | .isub => mj_i2 (fun x y => x - y) S K
  | .imul => mj_i2 (fun x y => x * y) S K
  | .iand => mj_i2 (fun x y => x &&& y) S K
  | .ior => mj_i2 (fun x y => x ||| y) S K
  | .ishl => mj_i2 (fun x y => x <<< (y &&& 31)) S K
  | .ishr => mj_i2 (fun x y => x >>> (y &&& 31)) S K
  | .iushr => mj_i2 (fun x y => (x.toUInt32 >>> (y.toUInt32 &&& Int32.toUInt32 31)).toInt32) S K
  | .idiv => mj_i2n (fun x y => x / y) S K
  | .irem => mj_i2n (fun x y => x - x / y * y) S K
  | .ineg => mj_i1 (fun x => -x) S K
  | .i2c => mj_i1 (fun x => (x.toUInt32 % 65536).toInt32) S K
  | .ladd => mj_l2 (fun x y => x + y) S K
  | .lsub => mj_l2 (fun x y => x - y) S K
  | .lmul => mj_l2 (fun x y => x * y) S K
  | .land => mj_l2 (fun x y => x &&& y) S K
  | .lor => mj_l2 (fun x y => x ||| y) S K
  | .ldiv => mj_l2n (fun x y => x / y) S K
  | .lrem => mj_l2n (fun x y => x - x / y * y) S K
  | .lshl => mj_lsh (fun x y => x <<< (y.toInt64 &&& 63)) S K
  | .lushr => mj_lsh (fun x y => (x.toUInt64 >>> (y.toInt64.toUInt64 &&& Int64.toUInt64 63)).toInt64) S K
  | .lcmp => mj_lcmp S K
  | .i2l => mj_i2l S K
  | .l2i => mj_l2i S K
  | .dup => mj_dup S K
  | .dup2 => mj_dup2 S K
  | .pop => mj_pop S K
  | .getfield k => mj_get o k S K
  | .putfield k => mj_put o k ini S K
  | .iaload => mj_ial S K
  | .laload => mj_lal S K
  | .baload => mj_bal S K
  | .aaload => mj_aal S K
  | .iastore => mj_ias S K
  | .lastore => mj_las S K
  | .bastore => mj_bas S K
  | .arraylength => mj_alen S K
  | _ => False
/-- a straight stretch -/
def mj_run (o : Nat) (ini : Bool) (nL : Nat) : List Instr → mj_S → (mj_S → Prop) → Prop
  | [], S, K => K S
  | i :: is, S, K => mj_stp o ini nL i S (fun S' => mj_run o ini nL is S' K)
/-- how many bytes an instruction of this kind takes -/
def mj_len : Instr → Nat
  | .bipush _ | .iload _ | .lload _ | .aload _ | .istore _ | .astore _ | .ldc _ => 2
  | .sipush _ | .ldc_w _ | .ldc2_w _ | .iinc _ _ | .getfield _ | .putfield _ => 3
  | _ => 1
def mj_dec (cc : ByteArray) (pc : Nat) : List Instr → Nat → Prop
  | [], pe => pc = pe
  | i :: is, pe => decode cc pc = .ok (i, mj_len i) ∧ mj_dec cc (pc + mj_len i) is pe
end
section
/-! ===== what the tables say, for the small machine ===== -/
def mj_GW : List Cond := lw_tbl.filter goodWord
def mj_gw (w : Cond) : Bool := decide (w ∈ lw_tbl) && goodWord w
theorem mj_gw_in {w : Cond} (h : mj_gw w = true) : w ∈ mj_GW := by
  simp only [mj_gw, Bool.and_eq_true, decide_eq_true_eq] at h
  exact List.mem_filter.mpr h
def mj_ftOk (kd : Nat) (ty : Option FieldType) : Bool := match kd, ty with
  | 0, some .int => true
  | 1, some .boolean => true
  | 2, some .long => true
  | 3, some (.object _) => true
  | 3, some (.array _) => true
  | _, _ => false
def mj_clsB (ci : Nat) (q : vw_C) : Bool :=
  (u_ws q.1 q.2.1 q.2.2).all mj_gw && decide ((mj_kds ci).length = q.2.2) &&
  (List.range q.2.2).all (fun k => mj_ftOk ((mj_kds ci).getD k 9) (parseFieldDescriptor (q.2.1 k).2.2.1) && decide ((q.2.1 k).2.2.2 = decide ((mj_kds ci).getD k 9 = 3)) && decide ((q.2.1 k).1 = q.1) &&
    (List.range q.2.2).all (fun b => decide (k = b) || decide ((q.2.1 k).2.1 ≠ (q.2.1 b).2.1)))
set_option maxRecDepth 100000 in
theorem mj_clsT : (List.range 13).all (fun ci => match vwCl[ci]? with
  | some q => mj_clsB ci q
  | none => false) = true := by decide +kernel
def mj_flB (o : Nat) (e : Nat × Nat × Nat) : Bool := match vwCl[e.2.1]? with
  | some q => decide (e.2.2 < q.2.2) && mj_gw (.fieldLink (mj_own.getD o "") e.1 (q.2.1 e.2.2).1 (q.2.1 e.2.2).2.1 (q.2.1 e.2.2).2.2.1)
  | none => false
set_option maxRecDepth 100000 in
theorem mj_flTT : (List.range 14).all (fun o => (mj_flT.getD o []).all (mj_flB o)) = true := by decide +kernel
set_option maxRecDepth 100000 in
theorem mj_ldTT : (List.range 14).all (fun o => (mj_ldT.getD o []).all (fun e => mj_gw (.constant (mj_own.getD o "") e.1 e.2))) = true := by decide +kernel
set_option maxRecDepth 100000 in
theorem mj_l2TT : (List.range 14).all (fun o => (mj_l2T.getD o []).all (fun e => mj_gw (.constantLong (mj_own.getD o "") e.1 e.2))) = true := by decide +kernel
end
section
/-! ===== the straight instruction is the machine's ===== -/
theorem mj_lookup_mem {β : Type} {k : Nat} {v : β} : ∀ {l : List (Nat × β)}, l.lookup k = some v → (k, v) ∈ l
  | [], h => by cases h
  | (a, b) :: l, h => by
    rw [List.lookup_cons] at h
    by_cases e : k = a
    · subst e
      simp at h
      subst h
      exact List.mem_cons_self
    · have e' : (k == a) = false := by simpa using e
      rw [e'] at h
      exact List.mem_cons_of_mem _ (mj_lookup_mem h)
theorem mj_getD_nil {α : Type} {l : List (List α)} {o n : Nat} {x : α} (hn : l.length ≤ n) (h : x ∈ l.getD o []) : o < n := by
  rcases Nat.lt_or_ge o n with q | q
  · exact q
  · rw [List.getD_eq_getElem?_getD, List.getElem?_eq_none (by omega)] at h
    simp at h
def mj_clsP (ci : Nat) (q : vw_C) : Prop := (∀ w ∈ u_ws q.1 q.2.1 q.2.2, w ∈ mj_GW) ∧ (mj_kds ci).length = q.2.2 ∧
  (∀ k, k < q.2.2 → mj_ftOk ((mj_kds ci).getD k 9) (parseFieldDescriptor (q.2.1 k).2.2.1) = true ∧ (q.2.1 k).2.2.2 = decide ((mj_kds ci).getD k 9 = 3) ∧ (q.2.1 k).1 = q.1) ∧
  (∀ a, a < q.2.2 → ∀ b, b < q.2.2 → a ≠ b → (q.2.1 a).2.1 ≠ (q.2.1 b).2.1)
theorem mj_cls {ci : Nat} {q : vw_C} (h : vwCl[ci]? = some q) : mj_clsP ci q := by
  have hlt : ci < 13 := (List.getElem?_eq_some_iff.mp h).1
  have h1 := List.all_eq_true.mp mj_clsT ci (List.mem_range.mpr hlt)
  rw [h] at h1
  simp only [mj_clsB, Bool.and_eq_true, List.all_eq_true, decide_eq_true_eq, List.mem_range, Bool.or_eq_true] at h1
  obtain ⟨⟨h2, h3⟩, h4⟩ := h1
  refine ⟨fun w hw => mj_gw_in (h2 w hw), h3, fun k hk => ⟨(h4 k hk).1.1.1, (h4 k hk).1.1.2, (h4 k hk).1.2⟩, fun a ha b hb hne => ?_⟩
  rcases (h4 a ha).2 b hb with e | e
  · exact absurd e hne
  · exact e
theorem mj_flP {o idx ci k : Nat} (h : mj_fl o idx = some (ci, k)) : ∃ q, vwCl[ci]? = some q ∧ k < q.2.2 ∧ Cond.fieldLink (mj_own.getD o "") idx (q.2.1 k).1 (q.2.1 k).2.1 (q.2.1 k).2.2.1 ∈ mj_GW := by
  have hm := mj_lookup_mem h
  have ho : o < 14 := mj_getD_nil (Nat.le_of_ble_eq_true rfl) hm
  have h1 := List.all_eq_true.mp (List.all_eq_true.mp mj_flTT o (List.mem_range.mpr ho)) _ hm
  simp only [mj_flB] at h1
  cases hq : vwCl[ci]? with
  | none => rw [hq] at h1; cases h1
  | some q =>
    rw [hq] at h1
    simp only [Bool.and_eq_true, decide_eq_true_eq] at h1
    exact ⟨q, rfl, h1.1, mj_gw_in h1.2⟩
theorem mj_ldP {o idx : Nat} {x : Int32} (h : (mj_ldT.getD o []).lookup idx = some x) : Cond.constant (mj_own.getD o "") idx x ∈ mj_GW := by
  have hm := mj_lookup_mem h
  have ho : o < 14 := mj_getD_nil (Nat.le_of_ble_eq_true rfl) hm
  have h1 := List.all_eq_true.mp mj_ldTT o (List.mem_range.mpr ho)
  have h2 : mj_gw (Cond.constant (mj_own.getD o "") idx x) = true := List.all_eq_true.mp h1 (idx, x) hm
  exact mj_gw_in h2
theorem mj_l2P {o idx : Nat} {x : Int64} (h : (mj_l2T.getD o []).lookup idx = some x) : Cond.constantLong (mj_own.getD o "") idx x ∈ mj_GW := by
  have hm := mj_lookup_mem h
  have ho : o < 14 := mj_getD_nil (Nat.le_of_ble_eq_true rfl) hm
  have h1 := List.all_eq_true.mp mj_l2TT o (List.mem_range.mpr ho)
  have h2 : mj_gw (Cond.constantLong (mj_own.getD o "") idx x) = true := List.all_eq_true.mp h1 (idx, x) hm
  exact mj_gw_in h2
/-- nest words, carried by the state -/
def mj_isN : Cond → Bool
  | .methodLinkNest .. => true
  | _ => false
def mj_NW : List Cond := lw_tbl.filter mj_isN
def mj_Kc (_ : mj_Om) (U : State) : Prop := ∀ w ∈ mj_NW, va_Nw w U
/-- the frame of a method that runs: its code, class, words, world's tables -/
def mj_F (Ω : mj_Om) (p : Program) (s : State) (m : MethodId) (args : Array Value) (meth : Method) (c : Code) (o : Nat) (ini : Bool) (cc : ByteArray) (nL : Nat) (ret : Option FieldType) : Prop :=
  p.tables.exec = Jvm.exec ∧ c.code = cc ∧ c.maxLocals = nL ∧ s.vm.findClass (mj_own.getD o "") = some m.cls ∧ (∀ w ∈ mj_GW, w.before args s = true) ∧ meth.sig.returnType = ret ∧ meth.locks = false ∧ va_K Ω.1 vwCl (mj_ty Ω) s ∧ (ini = true → meth.name = "<init>") ∧ Ω.2.2.1 ≤ s.heap.size ∧ mj_Kc Ω s
/-- the heap holds the memory -/
def mj_H (Ω : mj_Om) (al : Bool) (M : mj_M) (s : State) (H : Heap) (locs : List Loc) : Prop :=
  va_P Ω.1 vwCl (mj_w Ω M) H ∧ (al = true → H.size = Ω.2.2.1 + M.1.length) ∧ va_S (mj_A Ω) s.heap H locs
section MJS
variable {p : Program} {l : Launch} {e : Env} {R : Room} {s : State} {m : MethodId} {args : Array Value} {below : List Frame} {meth : Method} {c : Code} {cells slots : Nat} {Q : State → Prop}
variable {Ω : mj_Om} {al : Bool} {o : Nat} {ini : Bool} {cc : ByteArray} {nL pc : Nat} {ret : Option FieldType} {L : List (Option Value)} {st : List Value} {M : mj_M} {H : Heap} {locs : List Loc} {ls : Array Slot}
/-- the goal at a place of the small machine -/
def mj_Wg (Ω : mj_Om) (al : Bool) (nL : Nat) (p : Program) (l : Launch) (e : Env) (R : Room) (s : State) (m : MethodId) (args : Array Value) (below : List Frame) (meth : Method) (c : Code) (cells slots : Nat) (Q : State → Prop) (pc : Nat) (S : mj_S) : Prop :=
  ∀ (H : Heap) (locs : List Loc) (ls : Array Slot), mj_H Ω al S.2.2 s H locs → mj_has Ω ls nL S.1 → W p l e R s m args below meth c H locs cells slots Q (F0 m pc ls (S.2.1.map (mj_v Ω)))
theorem mj_at {k : Nat} {v : Value} (hl : mj_has Ω ls nL L) (h : mj_ld L k = some v) : ls[k]? = some (.val (mj_v Ω v)) := by
  refine hl.2.2 k v ?_
  unfold mj_ld at h
  rw [List.getD_eq_getElem?_getD] at h
  cases he : L[k]? with
  | none => rw [he] at h; cases h
  | some z => rw [he] at h; simp at h; rw [h]
theorem mj_put1_ok {k : Nat} {v : Value} {K : List (Option Value) → Prop} (h : mj_put1 nL k L v K) : mj_ok1 L k = true ∧ k < nL ∧ K (L.set k (some v)) := by
  unfold mj_put1 at h
  cases hb : (mj_ok1 L k && decide (k < nL)) with
  | false => rw [hb] at h; exact h.elim
  | true =>
    rw [hb] at h
    simp only [Bool.and_eq_true, decide_eq_true_eq] at hb
    exact ⟨hb.1, hb.2, h⟩
theorem mj_ui_ne {I : Nat → Nat → Int32} {c k a : Nat} {x : Int32} (h : a ≠ c) : mj_ui I c k x a = I a := by
  funext b
  simp [mj_ui, h]
theorem mj_ui_self {I : Nat → Nat → Int32} {c k : Nat} {x : Int32} : mj_ui I c k x c = upd (I c) k x := by
  funext b
  simp [mj_ui, upd]
theorem mj_ul_ne {I : Nat → Nat → Int64} {c k a : Nat} {x : Int64} (h : a ≠ c) : mj_ul I c k x a = I a := by
  funext b
  simp [mj_ul, h]
theorem mj_ul_self {I : Nat → Nat → Int64} {c k : Nat} {x : Int64} : mj_ul I c k x c = vp_updL (I c) k x := by
  funext b
  simp [mj_ul, vp_updL]
theorem mj_fs_cong {M M' : mj_M} {a ci : Nat} (hI : M'.2.2.1 a = M.2.2.1 a) (hJ : M'.2.2.2 a = M.2.2.2 a) (hR : ∀ k, mj_rf M' a k = mj_rf M a k) : mj_fs Ω M' a ci = mj_fs Ω M a ci := by
  unfold mj_fs
  congr 1
  funext k kd
  unfold mj_fv
  rw [hI, hJ, hR]
theorem mj_cell_cong {M M' : mj_M} {a : Nat} {sh : Nat × Nat} (hI : M'.2.2.1 a = M.2.2.1 a) (hJ : M'.2.2.2 a = M.2.2.2 a) (hR : ∀ k, mj_rf M' a k = mj_rf M a k) : mj_cell Ω M' a sh = mj_cell Ω M a sh := by
  obtain ⟨t, n⟩ := sh
  match t with
  | 0 => simp only [mj_cell, hI]
  | 1 => simp only [mj_cell, hI]
  | 2 => simp only [mj_cell, hJ]
  | 3 => simp only [mj_cell, hR]
  | k + 4 => simp only [mj_cell, mj_fs_cong (Ω := Ω) (ci := k) hI hJ hR]
theorem mj_fs_at {M : mj_M} {a ci k : Nat} (hk : k < (mj_kds ci).length) : (mj_fs Ω M a ci)[k]? = some (mj_v Ω (mj_fv M a ((mj_kds ci).getD k 0) k)) := by
  simp [mj_fs, List.getElem?_mapIdx, hk]
theorem mj_fs_set {M M' : mj_M} {a ci k : Nat} {v : Value} (hk : k < (mj_kds ci).length) (h1 : mj_v Ω (mj_fv M' a ((mj_kds ci).getD k 0) k) = v) (h2 : ∀ j kd, j ≠ k → mj_fv M' a kd j = mj_fv M a kd j) : (mj_fs Ω M a ci).set k v = mj_fs Ω M' a ci := by
  apply List.ext_getElem?
  intro i
  by_cases hi : i = k
  · subst hi
    rw [List.getElem?_set_self (by simpa [mj_fs] using hk), mj_fs_at hk, h1]
  · rw [List.getElem?_set_ne (Ne.symm hi)]
    simp only [mj_fs, List.getElem?_mapIdx]
    cases (mj_kds ci)[i]? with
    | none => rfl
    | some kd =>
      simp only [Option.map_some]
      rw [h2 i kd hi]
theorem mj_get_ok (F : mj_F Ω p s m args meth c o ini cc nL ret) {idx : Nat} {S : mj_S} {K : mj_S → Prop} (hdg : decode cc pc = .ok (.getfield idx, 3)) (h : mj_get o idx S K) (hk : ∀ S', K S' → mj_Wg Ω al nL p l e R s m args below meth c cells slots Q (pc + 3) S') : mj_Wg Ω al nL p l e R s m args below meth c cells slots Q pc S := by
  obtain ⟨L, st, M⟩ := S
  intro H locs ls hH hl
  obtain ⟨hx, hb, hml, hown, hts, hr, hlk, hK, -⟩ := F
  simp only [mj_get] at h
  split at h
  · rename_i a st' ci k hfl
    split at h
    · rename_i hd
      have hsh := of_decide_eq_true hd
      obtain ⟨q, hq, hkq, hlink⟩ := mj_flP hfl
      have hC := mj_cls hq
      have he := mj_w_at (Ω := Ω) hsh
      exact va_get (D := Ω.1) (ci := ci) (C := q.1) (T := q.2.1) (N := q.2.2) (Ts := mj_GW) hx hb hts hC.1 hown hK hH.1 a he hq k hkq (hts _ hlink) (fun _ h => h) (mj_fs_at (by rw [hC.2.1]; exact hkq)) hdg (hk _ h H locs ls hH hl)
    · exact h.elim
  · exact h.elim
end MJS
end
section
section MJT
variable {p : Program} {l : Launch} {e : Env} {R : Room} {s : State} {m : MethodId} {args : Array Value} {below : List Frame} {meth : Method} {c : Code} {cells slots : Nat} {Q : State → Prop}
variable {Ω : mj_Om} {al : Bool} {o : Nat} {ini : Bool} {cc : ByteArray} {nL pc : Nat} {ret : Option FieldType} {L : List (Option Value)} {st : List Value} {M : mj_M} {H : Heap} {locs : List Loc} {ls : Array Slot}
theorem mj_kd9 {ci k d : Nat} (h : (mj_kds ci).getD k 9 = d) (hk : k < (mj_kds ci).length) : (mj_kds ci).getD k 0 = d := by
  rw [List.getD_eq_getElem?_getD, List.getElem?_eq_getElem hk] at *
  exact h
/-- a field is written: the world behind it -/
theorem mj_put_gen (F : mj_F Ω p s m args meth c o ini cc nL ret) {idx a ci k : Nat} {v : Value} {rest : List Value} {M M' : mj_M} (hdg : decode cc pc = .ok (.putfield idx, 3)) (hH : mj_H Ω al M s H locs) (hfl : mj_fl o idx = some (ci, k)) (hsh : mj_sh M a = some (ci + 4, 0))
    (hfin : (mj_kds ci).getD k 9 ≠ 3) (hval : ∀ ty, mj_ftOk ((mj_kds ci).getD k 9) (some ty) = true → narrow ty v = v ∧ fits ty v = true) (h1 : M'.1 = M.1) (h2 : ∀ b s, b ≠ a → M.1[b]? = some s → mj_cell Ω M' b s = mj_cell Ω M b s) (h3 : k < (mj_kds ci).length → (mj_fs Ω M a ci).set k v = mj_fs Ω M' a ci)
    (kk : ∀ (H : Heap) (locs : List Loc), mj_H Ω al M' s H locs → W p l e R s m args below meth c H locs cells slots Q (F0 m (pc + 3) ls rest)) : W p l e R s m args below meth c H locs cells slots Q (F0 m pc ls (v :: .ref (mj_q Ω a) :: rest)) := by
  obtain ⟨hx, hb, hml, hown, hts, hr, hlk, hK, -⟩ := F
  obtain ⟨q, hq, hkq, hlink⟩ := mj_flP hfl
  have hC := mj_cls hq
  have he := mj_w_at (Ω := Ω) hsh
  have hkl : k < (mj_kds ci).length := by rw [hC.2.1]; exact hkq
  have hty : ∀ j, j < q.2.2 → parseFieldDescriptor (q.2.1 j).2.2.1 = some ((parseFieldDescriptor (q.2.1 j).2.2.1).getD .int) := by
    intro j hj
    have h4 := (hC.2.2.1 j hj).1
    cases hp : parseFieldDescriptor (q.2.1 j).2.2.1 with
    | some ty => rfl
    | none =>
      rw [hp] at h4
      simp only [mj_ftOk] at h4
      split at h4 <;> first | (rename_i hz; cases hz; done) | cases h4
  have h4 := (hC.2.2.1 k hkq).1
  rw [hty k hkq] at h4
  obtain ⟨v1, v2⟩ := hval _ h4
  obtain ⟨r, g1, cell, g2, g3, g4, g5⟩ := hH.1 a _ he
  cases g1.symm.trans hq
  obtain ⟨hSl, hfc, kC, hkC, hkind⟩ := hK.1 ci _ hq
  obtain ⟨cf, kf, fi, f, hi, hsl⟩ := hSl k hkq
  have hlay := hts _ (hC.1 _ (u_in_lay hkq))
  have hnf : (q.2.1 k).2.2.2 = false := by rw [(hC.2.2.1 k hkq).2.1]; exact decide_eq_false hfin
  unfold u_lay at hlay
  rw [if_neg (by rw [hnf]; decide)] at hlay
  have hap := va_apart (own := mj_own.getD o "") (Ts := mj_GW) hts hC.1 _ hty hC.2.2.2 hK hq
  have hst := (u_facts hfc hkC (u_lays hts hC.1 hkq) hi).1
  refine W.putK hx hb (f := f) ⟨hown, hts _ hlink, ⟨_, _, _, hi⟩, hst⟩ (by rw [g3]; exact u_store hfc hkC hkind hlay hi (hty k hkq) v1 v2) g2 g4 (by rw [hsl]; exact k2_hasslot (g5 k hkq)) rfl rfl hdg fun H' e1 e2 e3 => ?_
  rw [hsl] at e1 ⊢
  have hP := hH.1.set mj_D he (e := .inr (ci, (mj_fs Ω M a ci).set k v)) ⟨_, hq, t_OB.to (V := updV (vp_V (mj_fs Ω M a ci)) k v) ⟨_, e1, g3, g4, t_set g5 hap hkq v⟩ (fun j _ => vp_updV_set (by simpa [mj_fs] using hkl) v j)⟩ e3
  rw [h3 hkl] at hP
  have hw := mj_w_set (Ω := Ω) hsh h1 h2
  have hP : va_P Ω.1 vwCl ((mj_w Ω M).set a (mj_q Ω a, mj_cell Ω M' a (ci + 4, 0))) H' := hP
  rw [hw] at hP
  exact kk H' _ ⟨hP, fun h => by rw [e2, h1]; exact hH.2.1 h, hH.2.2.put e2 e3 (mj_D.2 a _ he)⟩
/-- a final field in its own constructor -/
theorem mj_putF_gen (F : mj_F Ω p s m args meth c o ini cc nL ret) {idx a ci k x : Nat} {rest : List Value} {M M' : mj_M} (hdg : decode cc pc = .ok (.putfield idx, 3)) (hH : mj_H Ω al M s H locs) (hfl : mj_fl o idx = some (ci, k)) (hsh : mj_sh M a = some (ci + 4, 0))
    (hfin : (mj_kds ci).getD k 9 = 3) (hini : ini = true) (hco : ci = o) (h1 : M'.1 = M.1) (h2 : ∀ b s, b ≠ a → M.1[b]? = some s → mj_cell Ω M' b s = mj_cell Ω M b s) (h3 : k < (mj_kds ci).length → (mj_fs Ω M a ci).set k (.ref (mj_q Ω x)) = mj_fs Ω M' a ci)
    (kk : ∀ (H : Heap) (locs : List Loc), mj_H Ω al M' s H locs → W p l e R s m args below meth c H locs cells slots Q (F0 m (pc + 3) ls rest)) : W p l e R s m args below meth c H locs cells slots Q (F0 m pc ls (.ref (mj_q Ω x) :: .ref (mj_q Ω a) :: rest)) := by
  obtain ⟨hx, hb, hml, hown, hts, hr, hlk, hK, hin, -⟩ := F
  obtain ⟨q, hq, hkq, hlink⟩ := mj_flP hfl
  have hC := mj_cls hq
  have he := mj_w_at (Ω := Ω) hsh
  have hkl : k < (mj_kds ci).length := by rw [hC.2.1]; exact hkq
  have hty : ∀ j, j < q.2.2 → parseFieldDescriptor (q.2.1 j).2.2.1 = some ((parseFieldDescriptor (q.2.1 j).2.2.1).getD .int) := by
    intro j hj
    have h4 := (hC.2.2.1 j hj).1
    cases hp : parseFieldDescriptor (q.2.1 j).2.2.1 with
    | some ty => rfl
    | none =>
      rw [hp] at h4
      simp only [mj_ftOk] at h4
      split at h4 <;> first | (rename_i hz; cases hz; done) | cases h4
  have h4 := (hC.2.2.1 k hkq).1
  rw [hty k hkq, hfin] at h4
  obtain ⟨v1, v2⟩ : narrow ((parseFieldDescriptor (q.2.1 k).2.2.1).getD .int) (.ref (mj_q Ω x)) = .ref (mj_q Ω x) ∧ fits ((parseFieldDescriptor (q.2.1 k).2.2.1).getD .int) (.ref (mj_q Ω x)) = true := by
    revert h4
    generalize (parseFieldDescriptor (q.2.1 k).2.2.1).getD .int = ty
    intro h4
    cases ty <;> first | exact ⟨rfl, rfl⟩ | (simp [mj_ftOk] at h4; done)
  obtain ⟨r, g1, cell, g2, g3, g4, g5⟩ := hH.1 a _ he
  cases g1.symm.trans hq
  obtain ⟨hSl, hfc, kC, hkC, hkind⟩ := hK.1 ci _ hq
  obtain ⟨cf, kf, fi, f, hi, hsl⟩ := hSl k hkq
  have hlay := hts _ (hC.1 _ (u_in_lay hkq))
  have hnf : (q.2.1 k).2.2.2 = true := by rw [(hC.2.2.1 k hkq).2.1]; exact decide_eq_true hfin
  unfold u_lay at hlay
  rw [if_pos hnf] at hlay
  have hap := va_apart (own := mj_own.getD o "") (Ts := mj_GW) hts hC.1 _ hty hC.2.2.2 hK hq
  have hst := (u_facts hfc hkC (u_lays hts hC.1 hkq) hi).1
  have hq1 : q.1 = mj_own.getD o "" := by
    subst hco
    have hlt : ci < 13 := (List.getElem?_eq_some_iff.mp hq).1
    have h13 : ∀ ci, ci < 13 → (vwCl[ci]?).map (fun q => q.1) = some (mj_own.getD ci "") := by decide
    have := h13 ci hlt
    rw [hq] at this
    exact Option.some.inj this
  have hcf : m.cls = cf := by
    obtain ⟨_, _, c', _, _, _, -, -, hf', -, -, -, hown2, -⟩ := Cond.laysFinal_spec hlay
    have e1 : c' = cf := by have := hi.symm.trans hf'; simp at this; exact this.1.symm
    rw [(hC.2.2.1 k hkq).2.2, hq1] at hown2
    rw [← e1]; exact Option.some.inj (hown.symm.trans hown2)
  refine W.putFinK hx hb hown (hts _ hlink) hi hst hcf (hin hini) (by rw [g3]; exact u_fits hfc hkC hkind (Or.inr hlay) hi (hty k hkq) v1 v2) g2 g4 (by rw [hsl]; exact k2_hasslot (g5 k hkq)) rfl rfl hdg fun H' e1 e2 e3 => ?_
  rw [hsl] at e1 ⊢
  have hP := hH.1.set mj_D he (e := .inr (ci, (mj_fs Ω M a ci).set k (.ref (mj_q Ω x)))) ⟨_, hq, t_OB.to (V := updV (vp_V (mj_fs Ω M a ci)) k (.ref (mj_q Ω x))) ⟨_, e1, g3, g4, t_set g5 hap hkq _⟩ (fun j _ => vp_updV_set (by simpa [mj_fs] using hkl) _ j)⟩ e3
  rw [h3 hkl] at hP
  have hw := mj_w_set (Ω := Ω) hsh h1 h2
  have hP : va_P Ω.1 vwCl ((mj_w Ω M).set a (mj_q Ω a, mj_cell Ω M' a (ci + 4, 0))) H' := hP
  rw [hw] at hP
  exact kk H' _ ⟨hP, fun h => by rw [e2, h1]; exact hH.2.1 h, hH.2.2.put e2 e3 (mj_D.2 a _ he)⟩
end MJT
end
section
section MJU
variable {p : Program} {l : Launch} {e : Env} {R : Room} {s : State} {m : MethodId} {args : Array Value} {below : List Frame} {meth : Method} {c : Code} {cells slots : Nat} {Q : State → Prop}
variable {Ω : mj_Om} {al : Bool} {o : Nat} {ini : Bool} {cc : ByteArray} {nL pc : Nat} {ret : Option FieldType} {L : List (Option Value)} {st : List Value} {M : mj_M} {H : Heap} {locs : List Loc} {ls : Array Slot}
theorem mj_put_ok (F : mj_F Ω p s m args meth c o ini cc nL ret) {idx : Nat} {S : mj_S} {K : mj_S → Prop} (hdg : decode cc pc = .ok (.putfield idx, 3)) (h : mj_put o idx ini S K) (hk : ∀ S', K S' → mj_Wg Ω al nL p l e R s m args below meth c cells slots Q (pc + 3) S') : mj_Wg Ω al nL p l e R s m args below meth c cells slots Q pc S := by
  obtain ⟨L, st, M⟩ := S
  intro H locs ls hH hl
  simp only [mj_put] at h
  split at h
  · rename_i x a st' ci k hfl
    split at h
    · rename_i hd
      obtain ⟨hsh, hkd, hini, hco⟩ := of_decide_eq_true hd
      refine mj_putF_gen (M := M) (M' := (M.1, ((a, k), x) :: M.2.1, M.2.2)) F hdg hH hfl hsh hkd hini hco rfl (fun b s hb _ => mj_cell_cong rfl rfl (fun j => ?_)) (fun hkl => mj_fs_set hkl ?_ (fun j kd hj => ?_)) (fun H locs hH => hk _ h H locs ls hH hl)
      · have : ((b, j) == (a, k)) = false := by simp [hb]
        simp only [mj_rf, List.lookup_cons, this]
      · rw [mj_kd9 hkd hkl]
        simp [mj_fv, mj_rf, mj_rv, mj_v]
      · unfold mj_fv
        have : ((a, j) == (a, k)) = false := by simp [hj]
        simp only [mj_rf, List.lookup_cons, this]
    · exact h.elim
  · rename_i x a st' ci k hfl
    split at h
    · rename_i hd hkd
      have hsh := of_decide_eq_true hd
      refine mj_put_gen (M := M) (M' := (M.1, M.2.1, mj_ui M.2.2.1 a k x, M.2.2.2)) (v := .int x) F hdg hH hfl hsh (by rw [hkd]; decide) (fun ty hty => ?_) rfl (fun b s hb _ => mj_cell_cong (mj_ui_ne hb) rfl (fun j => rfl)) (fun hkl => mj_fs_set hkl ?_ (fun j kd hj => ?_)) (fun H locs hH => hk _ h H locs ls hH hl)
      · rw [hkd] at hty
        cases ty <;> first | exact ⟨rfl, rfl⟩ | (simp [mj_ftOk] at hty; done)
      · rw [mj_kd9 hkd hkl]
        simp [mj_fv, mj_v, mj_ui]
      · unfold mj_fv
        simp [mj_ui, hj, mj_rf]
    · rename_i hd hkd
      obtain ⟨h01, h⟩ := h
      have hsh := of_decide_eq_true hd
      refine mj_put_gen (M := M) (M' := (M.1, M.2.1, mj_ui M.2.2.1 a k x, M.2.2.2)) (v := .int x) F hdg hH hfl hsh (by rw [hkd]; decide) (fun ty hty => ?_) rfl (fun b s hb _ => mj_cell_cong (mj_ui_ne hb) rfl (fun j => rfl)) (fun hkl => mj_fs_set hkl ?_ (fun j kd hj => ?_)) (fun H locs hH => hk _ h H locs ls hH hl)
      · rw [hkd] at hty
        cases ty <;> first | (rcases h01 with rfl | rfl <;> exact ⟨by decide, by decide⟩) | (simp [mj_ftOk] at hty; done)
      · rw [mj_kd9 hkd hkl]
        simp [mj_fv, mj_v, mj_ui]
      · unfold mj_fv
        simp [mj_ui, hj, mj_rf]
    · exact h.elim
  · rename_i x a st' ci k hfl
    split at h
    · rename_i hd hkd
      have hsh := of_decide_eq_true hd
      refine mj_put_gen (M := M) (M' := (M.1, M.2.1, M.2.2.1, mj_ul M.2.2.2 a k x)) (v := .long x) F hdg hH hfl hsh (by rw [hkd]; decide) (fun ty hty => ?_) rfl (fun b s hb _ => mj_cell_cong rfl (mj_ul_ne hb) (fun j => rfl)) (fun hkl => mj_fs_set hkl ?_ (fun j kd hj => ?_)) (fun H locs hH => hk _ h H locs ls hH hl)
      · rw [hkd] at hty
        cases ty <;> first | exact ⟨rfl, rfl⟩ | (simp [mj_ftOk] at hty; done)
      · rw [mj_kd9 hkd hkl]
        simp [mj_fv, mj_v, mj_ul]
      · unfold mj_fv
        simp [mj_ul, hj, mj_rf]
    · exact h.elim
  · exact h.elim
/-- an int is stored in an array -/
theorem mj_ias_ok (F : mj_F Ω p s m args meth c o ini cc nL ret) {S : mj_S} {K : mj_S → Prop} (hdg : decode cc pc = .ok (.iastore, 1)) (h : mj_ias S K) (hk : ∀ S', K S' → mj_Wg Ω al nL p l e R s m args below meth c cells slots Q (pc + 1) S') : mj_Wg Ω al nL p l e R s m args below meth c cells slots Q pc S := by
  obtain ⟨L, st, M⟩ := S
  intro H locs ls hH hl
  obtain ⟨hx, hb, hml, hown, hts, hr, hlk, hK, -⟩ := F
  simp only [mj_ias] at h
  split at h
  · rename_i x i a st'
    split at h
    · rename_i n hsh
      obtain ⟨hin, h⟩ := h
      have he := mj_w_at (Ω := Ω) hsh
      refine W.iast hx hb (hH.1 a _ he) ((hK.2 0 _ rfl).1 n (fun j => .int (M.2.2.1 a j))) (fun q => by cases q) (by show ¬ (i < 0 ∨ (arrV _ _ _).slots.size ≤ _); rw [arrV_size]; exact hin) rfl rfl hdg fun H1 e1 e2 e3 => ?_
      have hw := mj_w_set (Ω := Ω) (M' := (M.1, M.2.1, mj_ui M.2.2.1 a i.toNatClampNeg x, M.2.2.2)) hsh rfl (fun b s hb _ => mj_cell_cong (mj_ui_ne hb) rfl (fun j => rfl))
      have hP := hH.1.set mj_D he (e := mj_cell Ω (M.1, M.2.1, mj_ui M.2.2.1 a i.toNatClampNeg x, M.2.2.2) a (0, n)) (by
        show H1[mj_q Ω a]? = some (vp_cell _ _)
        rw [e1]
        show some ((vp_cell (Ω.2.1 0) (n, .inl (M.2.2.1 a))).setSlot _ _) = some (vp_cell (Ω.2.1 0) (n, .inl (mj_ui M.2.2.1 a i.toNatClampNeg x a)))
        rw [mj_ui_self, vp_cell_i, vp_cell_i, arrV_store]
        congr 2
        funext z
        by_cases hz : z = i.toNatClampNeg
        · subst hz
          simp [updV, upd]
        · simp [updV, upd, hz]) e3
      rw [hw] at hP
      exact hk _ h H1 _ ls ⟨hP, fun h => by rw [e2]; exact hH.2.1 h, hH.2.2.put e2 e3 (mj_D.2 a _ he)⟩ hl
    · exact h.elim
  · exact h.elim
theorem mj_bas_ok (F : mj_F Ω p s m args meth c o ini cc nL ret) {S : mj_S} {K : mj_S → Prop} (hdg : decode cc pc = .ok (.bastore, 1)) (h : mj_bas S K) (hk : ∀ S', K S' → mj_Wg Ω al nL p l e R s m args below meth c cells slots Q (pc + 1) S') : mj_Wg Ω al nL p l e R s m args below meth c cells slots Q pc S := by
  obtain ⟨L, st, M⟩ := S
  intro H locs ls hH hl
  obtain ⟨hx, hb, hml, hown, hts, hr, hlk, hK, -⟩ := F
  simp only [mj_bas] at h
  split at h
  · rename_i x i a st'
    split at h
    · rename_i n hsh
      obtain ⟨hin, h⟩ := h
      have he := mj_w_at (Ω := Ω) hsh
      refine W.zast hx hb (hH.1 a _ he) ((hK.2 1 _ rfl).1 n (fun j => .int (M.2.2.1 a j))) (fun q => by cases q) (by show ¬ (i < 0 ∨ (arrV _ _ _).slots.size ≤ _); rw [arrV_size]; exact hin) rfl rfl hdg fun H1 e1 e2 e3 => ?_
      have hw := mj_w_set (Ω := Ω) (M' := (M.1, M.2.1, mj_ui M.2.2.1 a i.toNatClampNeg (vp_nar .boolean x), M.2.2.2)) hsh rfl (fun b s hb _ => mj_cell_cong (mj_ui_ne hb) rfl (fun j => rfl))
      have hP := hH.1.set mj_D he (e := mj_cell Ω (M.1, M.2.1, mj_ui M.2.2.1 a i.toNatClampNeg (vp_nar .boolean x), M.2.2.2) a (1, n)) (by
        show H1[mj_q Ω a]? = some (vp_cell _ _)
        rw [e1]
        show some ((vp_cell (Ω.2.1 1) (n, .inl (M.2.2.1 a))).setSlot _ _) = some (vp_cell (Ω.2.1 1) (n, .inl (mj_ui M.2.2.1 a i.toNatClampNeg (vp_nar .boolean x) a)))
        rw [mj_ui_self, vp_cell_i, vp_cell_i, arrV_store]
        congr 2
        funext z
        by_cases hz : z = i.toNatClampNeg
        · subst hz
          simp [updV, upd]
          rfl
        · simp [updV, upd, hz]) e3
      rw [hw] at hP
      exact hk _ h H1 _ ls ⟨hP, fun h => by rw [e2]; exact hH.2.1 h, hH.2.2.put e2 e3 (mj_D.2 a _ he)⟩ hl
    · exact h.elim
  · exact h.elim
theorem mj_las_ok (F : mj_F Ω p s m args meth c o ini cc nL ret) {S : mj_S} {K : mj_S → Prop} (hdg : decode cc pc = .ok (.lastore, 1)) (h : mj_las S K) (hk : ∀ S', K S' → mj_Wg Ω al nL p l e R s m args below meth c cells slots Q (pc + 1) S') : mj_Wg Ω al nL p l e R s m args below meth c cells slots Q pc S := by
  obtain ⟨L, st, M⟩ := S
  intro H locs ls hH hl
  obtain ⟨hx, hb, hml, hown, hts, hr, hlk, hK, -⟩ := F
  simp only [mj_las] at h
  split at h
  · rename_i x i a st'
    split at h
    · rename_i n hsh
      obtain ⟨hin, h⟩ := h
      have he := mj_w_at (Ω := Ω) hsh
      refine W.last hx hb (hH.1 a _ he) ((hK.2 2 _ rfl).1 n (fun j => .long (M.2.2.2 a j))) (fun q => by cases q) (by show ¬ (i < 0 ∨ (arrV _ _ _).slots.size ≤ _); rw [arrV_size]; exact hin) rfl rfl hdg fun H1 e1 e2 e3 => ?_
      have hw := mj_w_set (Ω := Ω) (M' := (M.1, M.2.1, M.2.2.1, mj_ul M.2.2.2 a i.toNatClampNeg x)) hsh rfl (fun b s hb _ => mj_cell_cong rfl (mj_ul_ne hb) (fun j => rfl))
      have hP := hH.1.set mj_D he (e := mj_cell Ω (M.1, M.2.1, M.2.2.1, mj_ul M.2.2.2 a i.toNatClampNeg x) a (2, n)) (by
        show H1[mj_q Ω a]? = some (vp_cell _ _)
        rw [e1]
        show some ((vp_cell (Ω.2.1 2) (n, .inr (.inl (M.2.2.2 a)))).setSlot _ _) = some (vp_cell (Ω.2.1 2) (n, .inr (.inl (mj_ul M.2.2.2 a i.toNatClampNeg x a))))
        rw [mj_ul_self, vp_cell_l, vp_cell_l, arrV_store]
        congr 2
        funext z
        by_cases hz : z = i.toNatClampNeg
        · subst hz
          simp [updV, vp_updL]
        · simp [updV, vp_updL, hz]) e3
      rw [hw] at hP
      exact hk _ h H1 _ ls ⟨hP, fun h => by rw [e2]; exact hH.2.1 h, hH.2.2.put e2 e3 (mj_D.2 a _ he)⟩ hl
    · exact h.elim
  · exact h.elim
end MJU
end
section
section MJV
variable {p : Program} {l : Launch} {e : Env} {R : Room} {s : State} {m : MethodId} {args : Array Value} {below : List Frame} {meth : Method} {c : Code} {cells slots : Nat} {Q : State → Prop}
variable {Ω : mj_Om} {al : Bool} {o : Nat} {ini : Bool} {cc : ByteArray} {nL pc : Nat} {ret : Option FieldType}
theorem mj_aal_ok (F : mj_F Ω p s m args meth c o ini cc nL ret) {S : mj_S} {K : mj_S → Prop} (hdg : decode cc pc = .ok (.aaload, 1)) (h : mj_aal S K) (hk : ∀ S', K S' → mj_Wg Ω al nL p l e R s m args below meth c cells slots Q (pc + 1) S') : mj_Wg Ω al nL p l e R s m args below meth c cells slots Q pc S := by
  obtain ⟨L, st, M⟩ := S
  intro H locs ls hH hl
  obtain ⟨hx, hb, hml, hown, hts, hr, hlk, hK, -⟩ := F
  simp only [mj_aal] at h
  split at h
  · rename_i i a st'
    split at h
    · rename_i n hsh
      obtain ⟨hin, h⟩ := h
      have he := mj_w_at (Ω := Ω) hsh
      have hlt : i.toNatClampNeg < n := Nat.not_le.mp fun q => hin (Or.inr q)
      have hv : mj_v Ω (mj_rv (mj_rf M a i.toNatClampNeg)) = va_rf ((mj_rf M a i.toNatClampNeg).map (mj_q Ω)) := by
        cases mj_rf M a i.toNatClampNeg <;> rfl
      have k := hk _ h H locs ls hH hl
      rw [List.map_cons, hv] at k
      exact W.aald (v := va_rf ((mj_rf M a i.toNatClampNeg).map (mj_q Ω))) (ty := .array .int) hx hb (hH.1 a _ he) ((hK.2 3 _ rfl).1 n (fun j => va_rf ((mj_rf M a j).map (mj_q Ω)))) rfl (fun q => by cases q) (by show ¬ (i < 0 ∨ (arrV _ _ _).slots.size ≤ _); rw [arrV_size]; exact hin) (by show (arrV _ _ _).slots[_]? = _; rw [arrV_read _ _ hlt]) rfl rfl hdg k
    · exact h.elim
  · exact h.elim
set_option maxHeartbeats 4000000 in
theorem mj_stp_ok (F : mj_F Ω p s m args meth c o ini cc nL ret) {i : Instr} {S : mj_S} {K : mj_S → Prop} (hdg : decode cc pc = .ok (i, mj_len i)) (h : mj_stp o ini nL i S K) (hk : ∀ S', K S' → mj_Wg Ω al nL p l e R s m args below meth c cells slots Q (pc + mj_len i) S') : mj_Wg Ω al nL p l e R s m args below meth c cells slots Q pc S := by
  cases i with
  | getfield k => exact mj_get_ok F hdg h hk
  | putfield k => exact mj_put_ok F hdg h hk
  | iastore => exact mj_ias_ok F hdg h hk
  | bastore => exact mj_bas_ok F hdg h hk
  | lastore => exact mj_las_ok F hdg h hk
  | aaload => exact mj_aal_ok F hdg h hk
  | iconst n =>
    intro H locs ls hH hl
    exact lv_iconst F.1 F.2.1 hdg rfl (hk _ h H locs ls hH hl)
  | bipush n =>
    intro H locs ls hH hl
    exact lv_bipush F.1 F.2.1 hdg rfl (hk _ h H locs ls hH hl)
  | sipush n =>
    intro H locs ls hH hl
    exact lv_sipush F.1 F.2.1 hdg rfl (hk _ h H locs ls hH hl)
  | lconst n =>
    intro H locs ls hH hl
    exact lv_lconst F.1 F.2.1 hdg rfl (hk _ h H locs ls hH hl)
  | ldc n =>
    intro H locs ls hH hl
    simp only [mj_stp, mj_ldc] at h
    split at h
    · rename_i x hx
      exact lv_ldc F.1 F.2.1 F.2.2.2.1 (F.2.2.2.2.1 _ (mj_ldP hx)) hdg (hk _ h H locs ls hH hl)
    · exact h.elim
  | ldc_w n =>
    intro H locs ls hH hl
    simp only [mj_stp, mj_ldc] at h
    split at h
    · rename_i x hx
      exact lv_ldcw F.1 F.2.1 F.2.2.2.1 (F.2.2.2.2.1 _ (mj_ldP hx)) hdg (hk _ h H locs ls hH hl)
    · exact h.elim
  | ldc2_w n =>
    intro H locs ls hH hl
    simp only [mj_stp, mj_ldc2] at h
    split at h
    · rename_i x hx
      exact lv_ldc2 F.1 F.2.1 F.2.2.2.1 (F.2.2.2.2.1 _ (mj_l2P hx)) hdg (hk _ h H locs ls hH hl)
    · exact h.elim
  | iload_n n =>
    intro H locs ls hH hl
    simp only [mj_stp, mj_iload] at h
    split at h
    · rename_i x hx
      exact lv_iload_n F.1 F.2.1 hdg rfl (mj_at hl hx) (hk _ h H locs ls hH hl)
    · exact h.elim
  | iload n =>
    intro H locs ls hH hl
    simp only [mj_stp, mj_iload] at h
    split at h
    · rename_i x hx
      exact lv_iload F.1 F.2.1 hdg (mj_at hl hx) (hk _ h H locs ls hH hl)
    · exact h.elim
  | lload_n n =>
    intro H locs ls hH hl
    simp only [mj_stp, mj_lload] at h
    split at h
    · rename_i x hx
      exact lv_lload_n F.1 F.2.1 hdg rfl (mj_at hl hx) (hk _ h H locs ls hH hl)
    · exact h.elim
  | lload n =>
    intro H locs ls hH hl
    simp only [mj_stp, mj_lload] at h
    split at h
    · rename_i x hx
      exact lv_lload F.1 F.2.1 hdg (mj_at hl hx) (hk _ h H locs ls hH hl)
    · exact h.elim
  | aload_n n =>
    intro H locs ls hH hl
    simp only [mj_stp, mj_aload] at h
    split at h
    · rename_i x hx
      exact lv_aload_n F.1 F.2.1 hdg rfl (mj_at hl hx) (hk _ h H locs ls hH hl)
    · exact h.elim
  | aload n =>
    intro H locs ls hH hl
    simp only [mj_stp, mj_aload] at h
    split at h
    · rename_i x hx
      exact lv_aload F.1 F.2.1 hdg (mj_at hl hx) (hk _ h H locs ls hH hl)
    · exact h.elim
  | istore_n n =>
    obtain ⟨L, st, M⟩ := S
    intro H locs ls hH hl
    simp only [mj_stp, mj_istore] at h
    split at h
    · obtain ⟨h1, h2, h⟩ := mj_put1_ok h
      exact lv_istore_n F.1 F.2.1 hdg rfl (mj_l_of hl) h2 rfl (fun ls' hl' => hk _ h H locs ls' hH (mj_st h1 hl'))
    · exact h.elim
  | istore n =>
    obtain ⟨L, st, M⟩ := S
    intro H locs ls hH hl
    simp only [mj_stp, mj_istore] at h
    split at h
    · obtain ⟨h1, h2, h⟩ := mj_put1_ok h
      exact lv_istore F.1 F.2.1 hdg (mj_l_of hl) h2 rfl (fun ls' hl' => hk _ h H locs ls' hH (mj_st h1 hl'))
    · exact h.elim
  | astore_n n =>
    obtain ⟨L, st, M⟩ := S
    intro H locs ls hH hl
    simp only [mj_stp, mj_astore] at h
    split at h
    · obtain ⟨h1, h2, h⟩ := mj_put1_ok h
      exact lv_astore_n F.1 F.2.1 hdg rfl (mj_l_of hl) h2 rfl (fun ls' hl' => hk _ h H locs ls' hH (mj_st h1 hl'))
    · exact h.elim
  | astore n =>
    obtain ⟨L, st, M⟩ := S
    intro H locs ls hH hl
    simp only [mj_stp, mj_astore] at h
    split at h
    · obtain ⟨h1, h2, h⟩ := mj_put1_ok h
      exact lv_astore F.1 F.2.1 hdg (mj_l_of hl) h2 rfl (fun ls' hl' => hk _ h H locs ls' hH (mj_st h1 hl'))
    · exact h.elim
  | iinc n z =>
    obtain ⟨L, st, M⟩ := S
    intro H locs ls hH hl
    simp only [mj_stp, mj_iinc] at h
    split at h
    · rename_i x hx
      obtain ⟨h1, h2, h⟩ := mj_put1_ok h
      have hm : (n, mj_v Ω (.int x)) ∈ mj_l Ω L := List.mem_filterMap.mpr ⟨n, List.mem_range.mpr (by
        rcases Nat.lt_or_ge n L.length with q | q
        · exact q
        · unfold mj_ld at hx
          rw [List.getD_eq_getElem?_getD, List.getElem?_eq_none q] at hx
          cases hx), by unfold mj_ld at hx; rw [hx]; rfl⟩
      obtain ⟨k, hkk⟩ := List.getElem?_of_mem hm
      exact lv_iinc F.1 F.2.1 hdg (mj_l_of hl) (k := k) hkk rfl h2 rfl (fun ls' hl' => hk _ h H locs ls' hH (mj_st (v := .int (x + Int32.ofInt z)) h1 hl'))
    · exact h.elim
  | iadd => obtain ⟨L, st, M⟩ := S; intro H locs ls hH hl; simp only [mj_stp, mj_i2] at h; split at h; exact lv_iadd F.1 F.2.1 hdg (hk _ h H locs ls hH hl); exact h.elim
  | isub => obtain ⟨L, st, M⟩ := S; intro H locs ls hH hl; simp only [mj_stp, mj_i2] at h; split at h; exact lv_isub F.1 F.2.1 hdg (hk _ h H locs ls hH hl); exact h.elim
  | imul => obtain ⟨L, st, M⟩ := S; intro H locs ls hH hl; simp only [mj_stp, mj_i2] at h; split at h; exact lv_imul F.1 F.2.1 hdg (hk _ h H locs ls hH hl); exact h.elim
  | iand => obtain ⟨L, st, M⟩ := S; intro H locs ls hH hl; simp only [mj_stp, mj_i2] at h; split at h; exact lv_iand F.1 F.2.1 hdg (hk _ h H locs ls hH hl); exact h.elim
  | ior => obtain ⟨L, st, M⟩ := S; intro H locs ls hH hl; simp only [mj_stp, mj_i2] at h; split at h; exact lv_ior F.1 F.2.1 hdg (hk _ h H locs ls hH hl); exact h.elim
  | ishl => obtain ⟨L, st, M⟩ := S; intro H locs ls hH hl; simp only [mj_stp, mj_i2] at h; split at h; exact lv_ishl F.1 F.2.1 hdg (hk _ h H locs ls hH hl); exact h.elim
  | ishr => obtain ⟨L, st, M⟩ := S; intro H locs ls hH hl; simp only [mj_stp, mj_i2] at h; split at h; exact lv_ishr F.1 F.2.1 hdg (hk _ h H locs ls hH hl); exact h.elim
  | iushr => obtain ⟨L, st, M⟩ := S; intro H locs ls hH hl; simp only [mj_stp, mj_i2] at h; split at h; exact lv_iushr F.1 F.2.1 hdg rfl (hk _ h H locs ls hH hl); exact h.elim
  | idiv => obtain ⟨L, st, M⟩ := S; intro H locs ls hH hl; simp only [mj_stp, mj_i2n] at h; split at h; exact lv_idiv F.1 F.2.1 hdg h.1 (hk _ h.2 H locs ls hH hl); exact h.elim
  | irem => obtain ⟨L, st, M⟩ := S; intro H locs ls hH hl; simp only [mj_stp, mj_i2n] at h; split at h; exact lv_irem F.1 F.2.1 hdg h.1 (hk _ h.2 H locs ls hH hl); exact h.elim
  | ineg => obtain ⟨L, st, M⟩ := S; intro H locs ls hH hl; simp only [mj_stp, mj_i1] at h; split at h; exact lv_ineg F.1 F.2.1 hdg (hk _ h H locs ls hH hl); exact h.elim
  | i2c => obtain ⟨L, st, M⟩ := S; intro H locs ls hH hl; simp only [mj_stp, mj_i1] at h; split at h; exact lv_i2c F.1 F.2.1 hdg rfl (hk _ h H locs ls hH hl); exact h.elim
  | ladd => obtain ⟨L, st, M⟩ := S; intro H locs ls hH hl; simp only [mj_stp, mj_l2] at h; split at h; exact lv_ladd F.1 F.2.1 hdg (hk _ h H locs ls hH hl); exact h.elim
  | lsub => obtain ⟨L, st, M⟩ := S; intro H locs ls hH hl; simp only [mj_stp, mj_l2] at h; split at h; exact lv_lsub F.1 F.2.1 hdg (hk _ h H locs ls hH hl); exact h.elim
  | lmul => obtain ⟨L, st, M⟩ := S; intro H locs ls hH hl; simp only [mj_stp, mj_l2] at h; split at h; exact lv_lmul F.1 F.2.1 hdg (hk _ h H locs ls hH hl); exact h.elim
  | land => obtain ⟨L, st, M⟩ := S; intro H locs ls hH hl; simp only [mj_stp, mj_l2] at h; split at h; exact lv_land F.1 F.2.1 hdg (hk _ h H locs ls hH hl); exact h.elim
  | lor => obtain ⟨L, st, M⟩ := S; intro H locs ls hH hl; simp only [mj_stp, mj_l2] at h; split at h; exact lv_lor F.1 F.2.1 hdg (hk _ h H locs ls hH hl); exact h.elim
  | ldiv => obtain ⟨L, st, M⟩ := S; intro H locs ls hH hl; simp only [mj_stp, mj_l2n] at h; split at h; exact lv_ldiv F.1 F.2.1 hdg h.1 (hk _ h.2 H locs ls hH hl); exact h.elim
  | lrem => obtain ⟨L, st, M⟩ := S; intro H locs ls hH hl; simp only [mj_stp, mj_l2n] at h; split at h; exact lv_lrem F.1 F.2.1 hdg h.1 (hk _ h.2 H locs ls hH hl); exact h.elim
  | lshl => obtain ⟨L, st, M⟩ := S; intro H locs ls hH hl; simp only [mj_stp, mj_lsh] at h; split at h; exact lv_lshl F.1 F.2.1 hdg rfl (hk _ h H locs ls hH hl); exact h.elim
  | lushr => obtain ⟨L, st, M⟩ := S; intro H locs ls hH hl; simp only [mj_stp, mj_lsh] at h; split at h; exact lv_lushr F.1 F.2.1 hdg rfl (hk _ h H locs ls hH hl); exact h.elim
  | lcmp => obtain ⟨L, st, M⟩ := S; intro H locs ls hH hl; simp only [mj_stp, mj_lcmp] at h; split at h; exact W.lcmp F.1 F.2.1 hdg (hk _ h H locs ls hH hl); exact h.elim
  | i2l => obtain ⟨L, st, M⟩ := S; intro H locs ls hH hl; simp only [mj_stp, mj_i2l] at h; split at h; exact lv_i2l F.1 F.2.1 hdg rfl (hk _ h H locs ls hH hl); exact h.elim
  | l2i => obtain ⟨L, st, M⟩ := S; intro H locs ls hH hl; simp only [mj_stp, mj_l2i] at h; split at h; exact lv_l2i F.1 F.2.1 hdg rfl (hk _ h H locs ls hH hl); exact h.elim
  | dup => obtain ⟨L, st, M⟩ := S; intro H locs ls hH hl; simp only [mj_stp, mj_dup] at h; split at h; exact lv_dup F.1 F.2.1 hdg rfl (hk _ h H locs ls hH hl); exact lv_dup F.1 F.2.1 hdg rfl (hk _ h H locs ls hH hl); exact h.elim
  | dup2 => obtain ⟨L, st, M⟩ := S; intro H locs ls hH hl; simp only [mj_stp, mj_dup2] at h; split at h; exact lv_dup2_11 F.1 F.2.1 hdg rfl rfl (hk _ h H locs ls hH hl); exact lv_dup2_11 F.1 F.2.1 hdg rfl rfl (hk _ h H locs ls hH hl); exact h.elim
  | pop => obtain ⟨L, st, M⟩ := S; intro H locs ls hH hl; simp only [mj_stp, mj_pop] at h; split at h; exact lv_pop F.1 F.2.1 hdg rfl (hk _ h H locs ls hH hl); exact h.elim
  | iaload =>
    obtain ⟨L, st, M⟩ := S
    intro H locs ls hH hl
    simp only [mj_stp, mj_ial] at h
    split at h
    · split at h
      · rename_i n hsh
        exact va_iald F.1 F.2.1 F.2.2.2.2.2.2.2.1 hH.1 _ 0 (mj_w_at (Ω := Ω) hsh) rfl h.1 hdg (hk _ h.2 H locs ls hH hl)
      · exact h.elim
    · exact h.elim
  | laload =>
    obtain ⟨L, st, M⟩ := S
    intro H locs ls hH hl
    simp only [mj_stp, mj_lal] at h
    split at h
    · split at h
      · rename_i n hsh
        exact va_lald F.1 F.2.1 F.2.2.2.2.2.2.2.1 hH.1 _ 2 (mj_w_at (Ω := Ω) hsh) rfl h.1 hdg (hk _ h.2 H locs ls hH hl)
      · exact h.elim
    · exact h.elim
  | baload =>
    obtain ⟨L, st, M⟩ := S
    intro H locs ls hH hl
    simp only [mj_stp, mj_bal] at h
    split at h
    · split at h
      · rename_i n hsh
        exact va_zald F.1 F.2.1 F.2.2.2.2.2.2.2.1 hH.1 _ 1 (mj_w_at (Ω := Ω) hsh) rfl h.1 hdg (hk _ h.2 H locs ls hH hl)
      · exact h.elim
    · exact h.elim
  | arraylength =>
    obtain ⟨L, st, M⟩ := S
    intro H locs ls hH hl
    simp only [mj_stp, mj_alen] at h
    split at h
    · split at h
      · rename_i n hsh
        exact va_alen F.1 F.2.1 F.2.2.2.2.2.2.2.1 hH.1 _ 0 (mj_w_at (Ω := Ω) hsh) rfl rfl hdg (hk _ h H locs ls hH hl)
      · exact h.elim
    · exact h.elim
  | _ => exact h.elim
theorem mj_run_ok (F : mj_F Ω p s m args meth c o ini cc nL ret) : ∀ (is : List Instr) {pc pe : Nat} {S : mj_S} {K : mj_S → Prop}, mj_dec cc pc is pe → mj_run o ini nL is S K → (∀ S', K S' → mj_Wg Ω al nL p l e R s m args below meth c cells slots Q pe S') → mj_Wg Ω al nL p l e R s m args below meth c cells slots Q pc S
  | [], pc, pe, S, K, hd, h, hk => by
    cases hd
    exact hk S h
  | i :: is, pc, pe, S, K, hd, h, hk => mj_stp_ok F hd.1 h (fun S' h' => mj_run_ok F is hd.2 h' hk)
end MJV
end
section
/-! ===== methods of the small machine: contracts, what a stretch with branches and calls asks ===== -/
/-- class, constructor?, bytes, locals, answer's type, name -/
abbrev mj_m : Type := Nat × Bool × ByteArray × Nat × Option FieldType × MethodName
def mj_rm (d mc ms : Nat) : Room := { frames := d, cells := mc, slots := ms, locals := 64 * d }
def mj_ws (μ : mj_m) : List Cond := .code μ.2.2.2.2.2 μ.2.2.1 μ.2.2.2.1 μ.2.2.2.2.1 :: mj_GW
def mj_St (Ω : mj_Om) (al : Bool) (M : mj_M) (U : State) : Prop := va_P Ω.1 vwCl (mj_w Ω M) U.heap ∧ (al = true → U.heap.size = Ω.2.2.1 + M.1.length) ∧ Ω.2.2.1 ≤ U.heap.size ∧ va_K Ω.1 vwCl (mj_ty Ω) U ∧ mj_Kc Ω U
def mj_Pc (Ω : mj_Om) (al : Bool) (as : List Value) (M : mj_M) : Array Value → State → Prop := fun v U => v = (as.map (mj_v Ω)).toArray ∧ mj_St Ω al M U
def mj_Qc (Ω : mj_Om) (al : Bool) (Φ : Option Value → mj_M → Prop) : Array Value → State → Outcome → State → Prop := fun _ st oc t => (∃ (r : Option Value) (M' : mj_M), oc = .returned (r.map (mj_v Ω)) ∧ Φ r M' ∧ mj_St Ω al M' t) ∧ va_F (mj_A Ω) st t
def mj_Met (Ω : mj_Om) (l : Launch) (al : Bool) (μ : mj_m) (d mc ms : Nat) (as : List Value) (M : mj_M) (Φ : Option Value → mj_M → Prop) : Prop :=
  Met l μ.2.2.2.2.2 (mj_ws μ) (mj_rm d mc ms) (mj_Pc Ω al as M) (mj_Qc Ω al Φ) mc ms (mj_A Ω)
/-- the goal at a place of a method -/
def mj_G (Ω : mj_Om) (l : Launch) (al : Bool) (μ : mj_m) (d mc ms : Nat) (Φ : Option Value → mj_M → Prop) (k n pc : Nat) (S : mj_S) : Prop :=
  ∀ (p : Program) (e : Env) (s : State) (m : MethodId) (args : Array Value) (below : List Frame) (meth : Method) (c : Code), mj_F Ω p s m args meth c μ.1 μ.2.1 μ.2.2.1 μ.2.2.2.1 μ.2.2.2.2.1 →
    mj_Wg Ω al μ.2.2.2.1 p l e (mj_rm d mc ms) s m args below meth c k n (MQ below (mj_Qc Ω al Φ) args s mc ms (mj_A Ω)) pc S
abbrev mj_PT : Type := List Value → mj_M → (Option Value → mj_M → Prop) → Prop
def mj_tgt (pc : Nat) (off : Int) : Nat := ((pc : Int) + off).toNat
def mj_jmp (pc : Nat) (off : Int) (K : Nat → Prop) : Prop := match decide ((pc : Int) + off = ((mj_tgt pc off : Nat) : Int)) with
  | true => K (mj_tgt pc off)
  | false => False
def mj_cc (c : ClassFile.Cond) (x y : Int32) (A B : Prop) : Prop := match c with
  | .eq => if x = y then A else B
  | .ne => if x = y then B else A
  | .lt => if x < y then A else B
  | .ge => if x < y then B else A
  | .gt => if y < x then A else B
  | .le => if y < x then B else A
def mj_rti (ret : Option FieldType) (x : Int32) : Prop := match ret with
  | some .int => True
  | some .boolean => x = 0 ∨ x = 1
  | _ => False
def mj_sw (pc : Nat) (x : Int32) (dflt : Int) : List (Int × Int) → (Nat → Prop) → Prop
  | [], K => mj_jmp pc dflt K
  | (v, off) :: r, K => if x = Int32.ofInt v then mj_jmp pc off K else mj_sw pc x dflt r K
def mj_rg (ps : List (Int × Int)) : Bool := ps.all (fun q => decide ((Int32.ofInt q.1).toInt = q.1))
def mj_tp (lo : Int) (offs : Array Int) : List (Int × Int) := offs.toList.mapIdx (fun j off => (lo + (j : Int), off))
/-- cuts: where it is left to K; cs: the calls, by pool number: how many values they take, what they ask -/
def mj_wp (μ : mj_m) (P : List (Nat × Instr × Nat)) (cut : List Nat) (cs : List (Nat × Nat × Nat × mj_PT)) (Φ : Option Value → mj_M → Prop) (K : Nat → mj_S → Prop) : Nat → Bool → Nat → mj_S → Prop
  | 0, _, pc, S => K pc S
  | f + 1, go, pc, S => match !go && cut.contains pc, P.lookup pc with
    | true, _ => K pc S
    | false, none => False
    | false, some (i, _) => match i with
      | .tableswitch dflt lo hi offs => match S.2.1 with
        | .int x :: st => match mj_rg (mj_tp lo offs) && decide (hi + 1 = lo + (offs.toList.length : Int)) with
          | true => mj_sw pc x dflt (mj_tp lo offs) (fun t => mj_wp μ P cut cs Φ K f false t (S.1, st, S.2.2))
          | false => False
        | _ => False
      | .lookupswitch dflt ps => match S.2.1 with
        | .int x :: st => match mj_rg ps.toList && (ps.toList.zip (ps.toList.drop 1)).all (fun (a, next) => a.1 < next.1) with
          | true => mj_sw pc x dflt ps.toList (fun t => mj_wp μ P cut cs Φ K f false t (S.1, st, S.2.2))
          | false => False
        | _ => False
      | .goto off => mj_jmp pc off (fun t => mj_wp μ P cut cs Φ K f false t S)
      | .ifCond c off => match S.2.1 with
        | .int x :: st => mj_jmp pc off (fun t => mj_cc c x 0 (mj_wp μ P cut cs Φ K f false t (S.1, st, S.2.2)) (mj_wp μ P cut cs Φ K f false (pc + 3) (S.1, st, S.2.2)))
        | _ => False
      | .if_icmp c off => match S.2.1 with
        | .int y :: .int x :: st => mj_jmp pc off (fun t => mj_cc c x y (mj_wp μ P cut cs Φ K f false t (S.1, st, S.2.2)) (mj_wp μ P cut cs Φ K f false (pc + 3) (S.1, st, S.2.2)))
        | _ => False
      | .ireturn => match S.2.1 with
        | [.int x] => mj_rti μ.2.2.2.2.1 x ∧ Φ (some (.int x)) S.2.2
        | _ => False
      | .lreturn => match S.2.1, μ.2.2.2.2.1 with
        | [.long x], some .long => Φ (some (.long x)) S.2.2
        | _, _ => False
      | .return_ => match S.2.1, μ.2.2.2.2.1 with
        | [], none => Φ none S.2.2
        | _, _ => False
      | .invokevirtual k => match cs.lookup k with
        | some (kd, n, pt) => match decide (kd = 0 ∧ n ≤ S.2.1.length ∧ ((S.2.1.drop n).map (fun v => v.category)).sum ≤ 8) with
          | true => pt (S.2.1.take n).reverse S.2.2 (fun r M => mj_wp μ P cut cs Φ K f false (pc + 3) (S.1, r.toList ++ S.2.1.drop n, M))
          | false => False
        | none => False
      | .invokestatic k => match cs.lookup k with
        | some (kd, n, pt) => match decide (kd = 1 ∧ n ≤ S.2.1.length ∧ ((S.2.1.drop n).map (fun v => v.category)).sum ≤ 8) with
          | true => pt (S.2.1.take n).reverse S.2.2 (fun r M => mj_wp μ P cut cs Φ K f false (pc + 3) (S.1, r.toList ++ S.2.1.drop n, M))
          | false => False
        | none => False
      | .invokespecial k => match cs.lookup k with
        | some (kd, n, pt) => match decide (kd = 2 ∧ n ≤ S.2.1.length ∧ ((S.2.1.drop n).map (fun v => v.category)).sum ≤ 8) with
          | true => pt (S.2.1.take n).reverse S.2.2 (fun r M => mj_wp μ P cut cs Φ K f false (pc + 3) (S.1, r.toList ++ S.2.1.drop n, M))
          | false => False
        | none => False
      | i => mj_stp μ.1 μ.2.1 μ.2.2.2.1 i S (fun S' => mj_wp μ P cut cs Φ K f false (pc + mj_len i) S')
def mj_inv (kd k : Nat) : Instr := match kd with
  | 0 => .invokevirtual k
  | 1 => .invokestatic k
  | _ => .invokespecial k
/-- what a call asks of its callee: as the machine has it -/
def mj_Call (Ω : mj_Om) (l : Launch) (al : Bool) (μ : mj_m) (d k kd n : Nat) (pt : mj_PT) : Prop :=
  ∀ (p : Program) (e : Env) (s : State) (m : MethodId) (args : Array Value) (below : List Frame) (meth : Method) (c : Code) (Q : State → Prop) (pc : Nat) (L : List (Option Value)) (as rest : List Value) (M : mj_M) (Φ : Option Value → mj_M → Prop), mj_F Ω p s m args meth c μ.1 μ.2.1 μ.2.2.1 μ.2.2.2.1 μ.2.2.2.2.1 →
    decode μ.2.2.1 pc = .ok (mj_inv kd k, 3) → as.length = n → (rest.map (fun v => v.category)).sum ≤ 8 → pt as M Φ →
    (∀ r M', Φ r M' → mj_Wg Ω al μ.2.2.2.1 p l e (mj_rm d 0 0) s m args below meth c 0 0 Q (pc + 3) (L, r.toList ++ rest, M')) →
    mj_Wg Ω al μ.2.2.2.1 p l e (mj_rm d 0 0) s m args below meth c 0 0 Q pc (L, as.reverse ++ rest, M)
def mj_il : Instr → Nat
  | .goto _ | .ifCond _ _ | .if_icmp _ _ | .invokevirtual _ | .invokestatic _ | .invokespecial _ => 3
  | i => mj_len i
def mj_isSw : Instr → Bool
  | .tableswitch _ _ _ _ | .lookupswitch _ _ => true
  | _ => false
def mj_pd (cc : ByteArray) (P : List (Nat × Instr × Nat)) : Prop := ∀ e ∈ P, decode cc e.1 = .ok (e.2.1, e.2.2) ∧ (mj_isSw e.2.1 = true ∨ e.2.2 = mj_il e.2.1)
section MJW
variable {Ω : mj_Om} {l : Launch} {al : Bool} {μ : mj_m} {d : Nat} {Φ : Option Value → mj_M → Prop}
theorem mj_jmp_ok {pc : Nat} {off : Int} {K : Nat → Prop} (h : mj_jmp pc off K) : ∃ t : Nat, (pc : Int) + off = (t : Int) ∧ K t := by
  unfold mj_jmp at h
  split at h
  · rename_i hd
    exact ⟨_, of_decide_eq_true hd, h⟩
  · exact h.elim
theorem mj_sw_ok {pc : Nat} {x : Int32} {dflt : Int} {K : Nat → Prop} : ∀ {ps : List (Int × Int)}, mj_sw pc x dflt ps K → (∃ v off, (v, off) ∈ ps ∧ x = Int32.ofInt v ∧ mj_jmp pc off K) ∨ ((∀ v off, (v, off) ∈ ps → ¬ x = Int32.ofInt v) ∧ mj_jmp pc dflt K)
  | [], h => Or.inr ⟨fun _ _ h => (by cases h), h⟩
  | (v, off) :: r, h => by
    rw [mj_sw] at h
    by_cases e : x = Int32.ofInt v
    · rw [if_pos e] at h
      exact Or.inl ⟨v, off, List.mem_cons_self, e, h⟩
    · rw [if_neg e] at h
      rcases mj_sw_ok h with ⟨v2, o2, h1, h2, h3⟩ | ⟨h1, h2⟩
      · exact Or.inl ⟨v2, o2, List.mem_cons_of_mem _ h1, h2, h3⟩
      · refine Or.inr ⟨fun v2 o2 hm => ?_, h2⟩
        rcases List.mem_cons.mp hm with q | q
        · cases q; exact e
        · exact h1 v2 o2 q
theorem mj_lk_ok {pc : Nat} {x : Int32} {dflt : Int} {K : Nat → Prop} : ∀ {ps : List (Int × Int)}, mj_rg ps = true → mj_sw pc x dflt ps K → mj_jmp pc (Op.lookupswitch.offset ps dflt x.toInt) K
  | [], _, h => h
  | (v, off) :: r, hr, h => by
    simp only [mj_rg, List.all_cons, Bool.and_eq_true, decide_eq_true_eq] at hr
    rw [mj_sw] at h
    rw [Op.lookupswitch.offset_cons]
    by_cases e : x = Int32.ofInt v
    · rw [if_pos e] at h
      rw [if_pos (by rw [e]; exact hr.1.symm)]
      exact h
    · rw [if_neg e] at h
      rw [if_neg (fun q => e (Int32.toInt_inj.mp (by rw [hr.1]; exact q.symm)))]
      exact mj_lk_ok hr.2 h
theorem mj_Kc_warm {s U : State} (h : mj_Kc Ω s) (hW : s.WarmedH U.vm) : mj_Kc Ω U := by
  intro w hw
  have h1 := h w hw
  have h2 := (List.mem_filter.mp hw).2
  cases w <;> first | (simp [mj_isN] at h2; done) | exact va_Nw.warmM hW h1
theorem mj_leave {s : State} {H : Heap} {locs : List Loc} {M : mj_M} {as : Array Value} (hb : Ω.2.2.1 ≤ s.heap.size) (hK : va_K Ω.1 vwCl (mj_ty Ω) s) (hKc : mj_Kc Ω s) (hH : mj_H Ω al M s H locs) (r : Option Value) (hr : Φ r M) : ∀ t : State, t.heap = H → s.WarmedH t.vm → mj_Qc Ω al Φ as s (.returned (r.map (mj_v Ω))) t := by
  intro t ht hW
  refine ⟨⟨r, M, rfl, hr, by rw [ht]; exact hH.1, by rw [ht]; exact hH.2.1, ?_, va_K.moved hW.alike hK, mj_Kc_warm hKc hW⟩, hH.2.2.F ht⟩
  rw [ht]
  exact Nat.le_trans hb hH.2.2.1
set_option maxHeartbeats 4000000 in
theorem mj_wp_ok {P : List (Nat × Instr × Nat)} {cut : List Nat} {cs : List (Nat × Nat × Nat × mj_PT)} {K : Nat → mj_S → Prop} (hP : mj_pd μ.2.2.1 P) (hcs : ∀ q ∈ cs, mj_Call Ω l al μ d q.1 q.2.1 q.2.2.1 q.2.2.2) (hK : ∀ pc S, K pc S → mj_G Ω l al μ d 0 0 Φ 0 0 pc S) :
    ∀ (f : Nat) (go : Bool) (pc : Nat) (S : mj_S), mj_wp μ P cut cs Φ K f go pc S → mj_G Ω l al μ d 0 0 Φ 0 0 pc S
  | 0, _, pc, S, h => hK pc S h
  | f + 1, go, pc, S, h => by
    have ih := mj_wp_ok (cut := cut) hP hcs hK f
    rw [mj_wp] at h
    split at h
    · exact hK pc S h
    · exact h.elim
    · rename_i i len _ hlk
      obtain ⟨hdg, hlen⟩ := hP _ (mj_lookup_mem hlk)
      simp only at hdg hlen
      intro p e s m args below meth c F
      by_cases hsw : mj_isSw i = true
      · cases i with
        | tableswitch dflt lo hi offs =>
          obtain ⟨L, st, M⟩ := S
          simp only at h
          split at h
          · rename_i x st'
            split at h
            · rename_i hd
              simp only [Bool.and_eq_true, decide_eq_true_eq] at hd
              intro H locs ls hH hl
              rcases mj_sw_ok h with ⟨v, off, hm, hx, hj⟩ | ⟨hno, hj⟩
              · obtain ⟨t, ht, hk9⟩ := mj_jmp_ok hj
                have hv := of_decide_eq_true (List.all_eq_true.mp hd.1 _ hm)
                obtain ⟨j, hj2⟩ := List.getElem?_of_mem hm
                simp only [mj_tp, List.getElem?_mapIdx, Option.map_eq_some_iff, Prod.mk.injEq] at hj2
                obtain ⟨o2, ho2, hv2, rfl⟩ := hj2
                have hxv : x.toInt = lo + (j : Int) := by rw [hx, hv, hv2]
                have hjl : j < offs.toList.length := (List.getElem?_eq_some_iff.mp ho2).1
                exact lv_tableIn F.1 F.2.1 hdg (by omega) (by omega) (by rw [show (x.toInt - lo).toNat = j by omega, ← Array.getElem?_toList]; exact ho2) ht (ih _ _ _ hk9 p e s m args below meth c F H locs ls hH hl)
              · obtain ⟨t, ht, hj⟩ := mj_jmp_ok hj
                refine lv_tableOut F.1 F.2.1 hdg ?_ ht (ih _ _ _ hj p e s m args below meth c F H locs ls hH hl)
                by_cases q1 : x.toInt < lo
                · exact Or.inl q1
                · by_cases q2 : hi < x.toInt
                  · exact Or.inr q2
                  · exfalso
                    have hjl : (x.toInt - lo).toNat < offs.toList.length := by omega
                    have hm : (lo + (((x.toInt - lo).toNat : Nat) : Int), offs.toList[(x.toInt - lo).toNat]) ∈ mj_tp lo offs := List.mem_of_getElem? (i := (x.toInt - lo).toNat) (by simp only [mj_tp, List.getElem?_mapIdx, List.getElem?_eq_getElem hjl]; rfl)
                    have hv := of_decide_eq_true (List.all_eq_true.mp hd.1 _ hm)
                    refine hno _ _ hm (Int32.toInt_inj.mp ?_)
                    rw [hv]
                    simp only
                    omega
            · exact h.elim
          · exact h.elim
        | lookupswitch dflt ps =>
          obtain ⟨L, st, M⟩ := S
          simp only at h
          split at h
          · rename_i x st'
            split at h
            · rename_i hd
              simp only [Bool.and_eq_true] at hd
              intro H locs ls hH hl
              obtain ⟨t, ht, hj⟩ := mj_jmp_ok (mj_lk_ok hd.1 h)
              exact lv_lookup F.1 F.2.1 hdg hd.2 rfl ht (ih _ _ _ hj p e s m args below meth c F H locs ls hH hl)
            · exact h.elim
          · exact h.elim
        | _ => simp [mj_isSw] at hsw
      have hlen : len = mj_il i := by
        rcases hlen with q | q
        · exact absurd q hsw
        · exact q
      subst hlen
      cases i with
      | tableswitch dflt lo hi offs => simp [mj_isSw] at hsw
      | lookupswitch dflt ps => simp [mj_isSw] at hsw
      | goto off =>
        obtain ⟨t, ht, h⟩ := mj_jmp_ok h
        intro H locs ls hH hl
        exact lv_goto F.1 F.2.1 hdg ht (ih false t S h p e s m args below meth c F H locs ls hH hl)
      | ifCond cd off =>
        obtain ⟨L, st, M⟩ := S
        simp only at h
        split at h
        · obtain ⟨t, ht, h⟩ := mj_jmp_ok h
          intro H locs ls hH hl
          cases cd with
          | eq => exact lv_if_eq F.1 F.2.1 hdg ht (fun q => by simp only [mj_cc] at h; rw [if_pos q] at h; exact ih _ _ _ h p e s m args below meth c F H locs ls hH hl) (fun q => by simp only [mj_cc] at h; rw [if_neg q] at h; exact ih _ _ _ h p e s m args below meth c F H locs ls hH hl)
          | ne => exact lv_if_ne F.1 F.2.1 hdg ht (fun q => by simp only [mj_cc] at h; rw [if_neg q] at h; exact ih _ _ _ h p e s m args below meth c F H locs ls hH hl) (fun q => by simp only [mj_cc] at h; rw [if_pos q] at h; exact ih _ _ _ h p e s m args below meth c F H locs ls hH hl)
          | lt => exact lv_if_lt F.1 F.2.1 hdg ht (fun q => by simp only [mj_cc] at h; rw [if_pos q] at h; exact ih _ _ _ h p e s m args below meth c F H locs ls hH hl) (fun q => by simp only [mj_cc] at h; rw [if_neg q] at h; exact ih _ _ _ h p e s m args below meth c F H locs ls hH hl)
          | ge => exact lv_if_ge F.1 F.2.1 hdg ht (fun q => by simp only [mj_cc] at h; rw [if_neg (Int32.not_lt.mpr q)] at h; exact ih _ _ _ h p e s m args below meth c F H locs ls hH hl) (fun q => by simp only [mj_cc] at h; rw [if_pos (Int32.not_le.mp q)] at h; exact ih _ _ _ h p e s m args below meth c F H locs ls hH hl)
          | gt => exact lv_if_gt F.1 F.2.1 hdg ht (fun q => by simp only [mj_cc] at h; rw [if_pos q] at h; exact ih _ _ _ h p e s m args below meth c F H locs ls hH hl) (fun q => by simp only [mj_cc] at h; rw [if_neg q] at h; exact ih _ _ _ h p e s m args below meth c F H locs ls hH hl)
          | le => exact lv_if_le F.1 F.2.1 hdg ht (fun q => by simp only [mj_cc] at h; rw [if_neg (Int32.not_lt.mpr q)] at h; exact ih _ _ _ h p e s m args below meth c F H locs ls hH hl) (fun q => by simp only [mj_cc] at h; rw [if_pos (Int32.not_le.mp q)] at h; exact ih _ _ _ h p e s m args below meth c F H locs ls hH hl)
        · exact h.elim
      | if_icmp cd off =>
        obtain ⟨L, st, M⟩ := S
        simp only at h
        split at h
        · obtain ⟨t, ht, h⟩ := mj_jmp_ok h
          intro H locs ls hH hl
          cases cd with
          | eq => exact lv_icmp_eq F.1 F.2.1 hdg ht (fun q => by simp only [mj_cc] at h; rw [if_pos q] at h; exact ih _ _ _ h p e s m args below meth c F H locs ls hH hl) (fun q => by simp only [mj_cc] at h; rw [if_neg q] at h; exact ih _ _ _ h p e s m args below meth c F H locs ls hH hl)
          | ne => exact lv_icmp_ne F.1 F.2.1 hdg ht (fun q => by simp only [mj_cc] at h; rw [if_neg q] at h; exact ih _ _ _ h p e s m args below meth c F H locs ls hH hl) (fun q => by simp only [mj_cc] at h; rw [if_pos q] at h; exact ih _ _ _ h p e s m args below meth c F H locs ls hH hl)
          | lt => exact lv_icmp_lt F.1 F.2.1 hdg ht (fun q => by simp only [mj_cc] at h; rw [if_pos q] at h; exact ih _ _ _ h p e s m args below meth c F H locs ls hH hl) (fun q => by simp only [mj_cc] at h; rw [if_neg q] at h; exact ih _ _ _ h p e s m args below meth c F H locs ls hH hl)
          | ge => exact lv_icmp_ge F.1 F.2.1 hdg ht (fun q => by simp only [mj_cc] at h; rw [if_neg (Int32.not_lt.mpr q)] at h; exact ih _ _ _ h p e s m args below meth c F H locs ls hH hl) (fun q => by simp only [mj_cc] at h; rw [if_pos (Int32.not_le.mp q)] at h; exact ih _ _ _ h p e s m args below meth c F H locs ls hH hl)
          | gt => exact lv_icmp_gt F.1 F.2.1 hdg ht (fun q => by simp only [mj_cc] at h; rw [if_pos q] at h; exact ih _ _ _ h p e s m args below meth c F H locs ls hH hl) (fun q => by simp only [mj_cc] at h; rw [if_neg q] at h; exact ih _ _ _ h p e s m args below meth c F H locs ls hH hl)
          | le => exact lv_icmp_le F.1 F.2.1 hdg ht (fun q => by simp only [mj_cc] at h; rw [if_neg (Int32.not_lt.mpr q)] at h; exact ih _ _ _ h p e s m args below meth c F H locs ls hH hl) (fun q => by simp only [mj_cc] at h; rw [if_pos (Int32.not_le.mp q)] at h; exact ih _ _ _ h p e s m args below meth c F H locs ls hH hl)
        · exact h.elim
      | ireturn =>
        obtain ⟨L, st, M⟩ := S
        obtain ⟨hx, hb, hml, hown, hts, hr, hlk2, hKk, hin, hbs, hKc⟩ := F
        simp only at h
        split at h
        · rename_i x
          obtain ⟨h1, h⟩ := h
          intro H locs ls hH hl
          have hq := mj_leave (as := args) hbs hKk hKc hH (some (.int x)) h
          unfold mj_rti at h1
          split at h1
          · rename_i hrt
            exact W.iret hx hb (by rw [hr, hrt]) hq hH.2.2.2.2 hdg hlk2
          · rename_i hrt
            exact W.zret hx hb (by rw [hr, hrt]) (by rcases h1 with rfl | rfl <;> decide) hq hH.2.2.2.2 hdg hlk2
          · exact h1.elim
        · exact h.elim
      | lreturn =>
        obtain ⟨L, st, M⟩ := S
        obtain ⟨hx, hb, hml, hown, hts, hr, hlk2, hKk, hin, hbs, hKc⟩ := F
        simp only at h
        split at h
        · rename_i x hrt
          intro H locs ls hH hl
          exact W.lret hx hb (by rw [hr, hrt]) (mj_leave (as := args) hbs hKk hKc hH (some (.long x)) h) hH.2.2.2.2 hdg hlk2
        · exact h.elim
      | return_ =>
        obtain ⟨L, st, M⟩ := S
        obtain ⟨hx, hb, hml, hown, hts, hr, hlk2, hKk, hin, hbs, hKc⟩ := F
        simp only at h
        split at h
        · rename_i hrt
          intro H locs ls hH hl
          exact W.vret hx hb (by rw [hr, hrt]) (mj_leave (as := args) hbs hKk hKc hH none h) hH.2.2.2.2 hdg hlk2
        · exact h.elim
      | invokevirtual k =>
        obtain ⟨L, st, M⟩ := S
        simp only at h
        split at h
        · rename_i kd n pt hcl
          split at h
          · rename_i hd
            obtain ⟨rfl, h1, h2⟩ := of_decide_eq_true hd
            have hc := hcs _ (mj_lookup_mem hcl) p e s m args below meth c (MQ below (mj_Qc Ω al Φ) args s 0 0 (mj_A Ω)) pc L (st.take n).reverse (st.drop n) M _ F hdg (by simp [List.length_take, h1]) h2 h (fun r M' hr => ih _ _ _ hr p e s m args below meth c F)
            rw [List.reverse_reverse, List.take_append_drop] at hc
            exact hc
          · exact h.elim
        · exact h.elim
      | invokestatic k =>
        obtain ⟨L, st, M⟩ := S
        simp only at h
        split at h
        · rename_i kd n pt hcl
          split at h
          · rename_i hd
            obtain ⟨rfl, h1, h2⟩ := of_decide_eq_true hd
            have hc := hcs _ (mj_lookup_mem hcl) p e s m args below meth c (MQ below (mj_Qc Ω al Φ) args s 0 0 (mj_A Ω)) pc L (st.take n).reverse (st.drop n) M _ F hdg (by simp [List.length_take, h1]) h2 h (fun r M' hr => ih _ _ _ hr p e s m args below meth c F)
            rw [List.reverse_reverse, List.take_append_drop] at hc
            exact hc
          · exact h.elim
        · exact h.elim
      | invokespecial k =>
        obtain ⟨L, st, M⟩ := S
        simp only at h
        split at h
        · rename_i kd n pt hcl
          split at h
          · rename_i hd
            obtain ⟨rfl, h1, h2⟩ := of_decide_eq_true hd
            have hc := hcs _ (mj_lookup_mem hcl) p e s m args below meth c (MQ below (mj_Qc Ω al Φ) args s 0 0 (mj_A Ω)) pc L (st.take n).reverse (st.drop n) M _ F hdg (by simp [List.length_take, h1]) h2 h (fun r M' hr => ih _ _ _ hr p e s m args below meth c F)
            rw [List.reverse_reverse, List.take_append_drop] at hc
            exact hc
          · exact h.elim
        · exact h.elim
      | _ => exact mj_stp_ok F hdg h (fun S' h' => ih _ _ _ h' p e s m args below meth c F)
end MJW
end
section
/-! ===== entry and calls ===== -/
def mj_flat (as : List Value) : List (Option Value) := as.flatMap (fun v => if v.category = 2 then [some v, none] else [some v])
def mj_ent (nL : Nat) (as : List Value) : List (Option Value) := mj_flat as ++ List.replicate (nL - (mj_flat as).length) none
/-- a call through an object of class ci -/
def mj_rcv (ci : Nat) (pt : mj_PT) : mj_PT := fun as M Φ => match as with
  | .ref a :: _ => match decide (mj_sh M a = some (ci + 4, 0)) with
    | true => pt as M Φ
    | false => False
  | _ => False
section MJE
variable {Ω : mj_Om} {l : Launch} {al : Bool} {μ : mj_m} {d mc ms : Nat} {Φ : Option Value → mj_M → Prop} {M : mj_M} {as : List Value}
theorem mj_flat_in : ∀ (as : List Value) (n0 i : Nat) (v : Value), (mj_flat as)[i]? = some (some v) → (n0 + i, mj_v Ω v) ∈ lv_args n0 (as.map (mj_v Ω))
  | [], n0, i, v, h => by simp [mj_flat] at h
  | a :: as, n0, i, v, h => by
    have hf : mj_flat (a :: as) = (if a.category = 2 then [some a, none] else [some a]) ++ mj_flat as := rfl
    rw [hf] at h
    rw [List.map_cons, lv_args, mj_v_cat]
    by_cases hc : a.category = 2
    · rw [if_pos hc] at h ⊢
      match i, h with
      | 0, h => simp at h; subst h; exact List.mem_cons_self
      | 1, h => simp at h
      | i + 2, h =>
        have h2 : (mj_flat as)[i]? = some (some v) := by simpa using h
        have := mj_flat_in as (n0 + 2) i v h2
        rw [show n0 + (i + 2) = n0 + 2 + i by omega]
        exact List.mem_cons_of_mem _ this
    · rw [if_neg hc] at h ⊢
      match i, h with
      | 0, h => simp at h; subst h; exact List.mem_cons_self
      | i + 1, h =>
        have h2 : (mj_flat as)[i]? = some (some v) := by simpa using h
        have := mj_flat_in as (n0 + 1) i v h2
        rw [show n0 + (i + 1) = n0 + 1 + i by omega]
        exact List.mem_cons_of_mem _ this
theorem mj_flat_len : ∀ (as : List Value), (lg_sl (as.map (mj_v Ω))).length = (mj_flat as).length
  | [] => rfl
  | a :: as => by
    have hf : mj_flat (a :: as) = (if a.category = 2 then [some a, none] else [some a]) ++ mj_flat as := rfl
    have hg : lg_sl ((a :: as).map (mj_v Ω)) = (if (mj_v Ω a).category = 2 then [.val (mj_v Ω a), .second] else [.val (mj_v Ω a)]) ++ lg_sl (as.map (mj_v Ω)) := rfl
    rw [hf, hg, List.length_append, List.length_append, mj_flat_len as, mj_v_cat]
    by_cases hc : a.category = 2
    · rw [if_pos hc, if_pos hc]; rfl
    · rw [if_neg hc, if_neg hc]; rfl
theorem mj_entry (hy : plainName μ.2.2.2.2.2.cls = true) (ho : mj_own.getD μ.1 "" = μ.2.2.2.2.2.cls) (hi : μ.2.1 = true → μ.2.2.2.2.2.name = "<init>") (ha : (mj_flat as).length ≤ μ.2.2.2.1)
    (h : mj_G Ω l al μ d mc ms Φ 0 0 0 (mj_ent μ.2.2.2.1 as, [], M)) : mj_Met Ω l al μ d mc ms as M Φ := by
  refine Met.ofW (cc := μ.2.2.1) (maxL := μ.2.2.2.1) (ret := μ.2.2.2.2.1) hy rfl ?_
  intro p e s m args below meth c s₁ B hml hv
  obtain ⟨rfl, hP, hal, hbs, hK, hKc⟩ := hv
  have hts := atoms_spec (ws := mj_ws μ) B.pre
  have hown : s.vm.findClass (mj_own.getD μ.1 "") = some m.cls := by rw [ho]; exact findClass_of_methodNamed B.named
  have F : mj_F Ω p s m (as.map (mj_v Ω)).toArray meth c μ.1 μ.2.1 μ.2.2.1 μ.2.2.2.1 μ.2.2.2.2.1 :=
    ⟨B.exec, B.bytes, hml, hown, fun w hw => hts w (List.mem_cons_of_mem _ hw), B.returns, B.notSynchronized, hK, fun q => ((name_of_methodNamed B.named B.method).1).trans (hi q), hbs, hKc⟩
  have hle : (lg_sl (as.map (mj_v Ω))).length ≤ μ.2.2.2.1 := by rw [mj_flat_len]; exact ha
  have hl := lv_entry (as.map (mj_v Ω)) hle
  rw [lg_entry_eq]
  refine h p e s m _ below meth c F s.heap [] _ ⟨hP, hal, va_S.rf⟩ ⟨hl.1, hl.2.1, fun i v hiv => ?_⟩
  have hil : i < (mj_flat as).length := by
    rcases Nat.lt_or_ge i (mj_flat as).length with q | q
    · exact q
    · simp only [mj_ent] at hiv
      rw [List.getElem?_append_right q] at hiv
      have := List.mem_of_getElem? hiv
      simp at this
  have h2 : (mj_flat as)[i]? = some (some v) := by
    simp only [mj_ent] at hiv
    rwa [List.getElem?_append_left hil] at hiv
  have := hl.2.2 _ (mj_flat_in (Ω := Ω) as 0 i v h2)
  simpa using this
theorem mj_good {w : Cond} (h : w ∈ mj_GW) : w ∈ mj_GW ∧ ((w.onTables && w.keeps) = true ∨ ∃ ty, w = .arrayClass ty) := ⟨h, good_of_word (List.mem_filter.mp h).2⟩
theorem mj_blind : FrameBlind (mj_Pc Ω al as M) := by
  intro a U g mk q
  obtain ⟨q1, q2, q3, q4, q5, q6⟩ := q
  refine ⟨q1, q2, q3, q4, va_K.moved (u := U) (U := U.calling g mk a) (Vm.Alike.refl U.vm) q5, fun w hw => ?_⟩
  have h1 := q6 w hw
  have h2 := (List.mem_filter.mp hw).2
  cases w <;> first | (simp [mj_isN] at h2; done) | exact va_Nw.same rfl rfl h1
/-- behind a call -/
theorem mj_after {p : Program} {e : Env} {R : Room} {s : State} {m : MethodId} {args : Array Value} {below : List Frame} {meth : Method} {c : Code} {H : Heap} {locs : List Loc} {cells slots k n : Nat} {Q : State → Prop} {pc : Nat} {ls : Array Slot} {st0 rest : List Value} {a : Array Value} {nL : Nat} {L : List (Option Value)}
    (hr : va_Run p l e R s m args below meth c H locs cells slots k n (F0 m pc ls st0) (rest.map (mj_v Ω)) (mj_Qc Ω al Φ a) (mj_A Ω)) (hS : va_S (mj_A Ω) s.heap H locs) (hl : mj_has Ω ls nL L)
    (kk : ∀ r M', Φ r M' → mj_Wg Ω al nL p l e R s m args below meth c (cells + k) (slots + n) Q (pc + 3) (L, r.toList ++ rest, M')) : W p l e R s m args below meth c H locs cells slots Q (F0 m pc ls st0) := by
  intro T hT X
  obtain ⟨v, st₀, t, T', L1, h0, X', hL, e1, e2, ⟨⟨r, M', hv, hp, hP, hal, hb, hK, hKc⟩, hz, hk⟩, st⟩ := hr T hT X
  have hv : v = r.map (mj_v Ω) := by simpa using hv
  rw [h0] at hz hk
  have hS' : va_S (mj_A Ω) s.heap T'.heap (locs ++ L1) := ⟨Nat.le_trans hS.1 (by rw [e1]; exact hz), fun q h1 h2 => by rw [e1, hk q (Nat.lt_of_lt_of_le h1 hS.1) h2]; exact hS.2.1 q h1 h2, fun q hq => by
      rcases List.mem_append.mp hq with h | h
      · exact hS.2.2 q h
      · exact hL q h⟩
  obtain ⟨t2, a1, b1⟩ := kk r M' hp T'.heap (locs ++ L1) ls ⟨by rw [e1]; exact hP, by rw [e1]; exact hal, hS'⟩ hl T' rfl X'
  refine ⟨t2, st t2 ?_, b1⟩
  have hs : v.toList ++ rest.map (mj_v Ω) = (r.toList ++ rest).map (mj_v Ω) := by
    rw [hv]
    cases r <;> simp
  show Steps p.tables e below (T'.setTop (F0 m (pc + 3) ls (v.toList ++ rest.map (mj_v Ω)))) t2
  rw [hs]
  exact a1
/-- what stands in the tables of a method that is called by a name -/
def mj_mf (μ : mj_m) : Prop := Cond.code μ.2.2.2.2.2 μ.2.2.1 μ.2.2.2.1 μ.2.2.2.2.1 ∈ mj_GW ∧ Cond.initialized μ.2.2.2.2.2.cls ∈ mj_GW ∧ μ.2.2.2.1 ≤ 40 ∧ μ.2.2.2.2.2.cls ≠ "java/lang/invoke/MethodHandle" ∧ μ.2.2.2.2.2.cls ≠ "java/lang/invoke/VarHandle"
def mj_np (μ : mj_m) : Option Nat := (parseMethodDescriptor μ.2.2.2.2.2.desc).map (fun d => d.parameters.length)
theorem mj_callV {μ' : mj_m} {d' ci k n : Nat} {pt : mj_PT} {q : vw_C} (hd : d' + 1 ≤ d) (hM : ∀ as M Φ, pt as M Φ → mj_Met Ω l al μ' d' 0 0 as M Φ) (hf : mj_mf μ') (hq : vwCl[ci]? = some q) (hcl : μ'.2.2.2.2.2.cls = q.1) (hi : Cond.instanceMethod μ'.2.2.2.2.2 ∈ mj_GW) (hs : Cond.selects q.1 μ'.2.2.2.2.2 μ'.2.2.2.2.2 ∈ mj_GW)
    (hn : mj_np μ' = some n) (hlk : Cond.methodLink (mj_own.getD μ.1 "") k μ'.2.2.2.2.2 ∈ mj_GW) : mj_Call Ω l al μ d k 0 (n + 1) (mj_rcv ci pt) := by
  intro p e s m args below meth c Q pc L as rest M Φ F hdg hlen hW hpt hk H locs ls hH hl
  obtain ⟨hx, hb, hml, hown, hts, hr, hlk2, hK, hin, hbs, hKc⟩ := F
  simp only [mj_rcv] at hpt
  split at hpt
  · rename_i a tl
    split at hpt
    · rename_i hdd
      have hsh := of_decide_eq_true hdd
      have he := mj_w_at (Ω := Ω) hsh
      have hG : GoodIn mj_GW (wsV (mj_own.getD μ.1 "") k q.1 μ'.2.2.2.2.2 (mj_ws μ')) := by
        intro w hw
        unfold wsV mj_ws at hw
        simp only [List.cons_append, List.nil_append, List.mem_cons] at hw
        rcases hw with rfl | rfl | rfl | rfl | rfl | hw
        · exact mj_good hlk
        · exact mj_good hi
        · exact mj_good hs
        · rw [← hcl]; exact mj_good hf.2.1
        · exact mj_good hf.1
        · exact mj_good hw
      have cw := cwV (R := mj_rm d 0 0) (s := s) (args := args) (own := mj_own.getD μ.1 "") (C := q.1) (index := k) (y := μ'.2.2.2.2.2) (bytes := μ'.2.2.1) (maxL := μ'.2.2.2.1) (ret := μ'.2.2.2.2.1) (ws := mj_ws μ') (rm := mj_rm d' 0 0) (mc := 0) (ms := 0) n hts hG rfl rfl rfl ⟨hcl, hf.2.2.2.1, hf.2.2.2.2, hn⟩ ⟨hd, by show 8 + (μ'.2.2.2.1 + 11) + 64 * d' ≤ 64 * d; have := hf.2.2.1; omega⟩
      have run := va_runV (l := l) (e := e) (below := below) (meth := meth) (cells := 0) (slots := 0) (locs := locs) (As := tl.map (mj_v Ω)) (rest := rest.map (mj_v Ω)) (g := F0 m pc ls (((.ref a :: tl).reverse ++ rest).map (mj_v Ω))) (b := mj_q Ω a) (H := H) ⟨hx, hb, hml, hown, hts⟩ (hM _ _ _ hpt) cw
        ⟨mj_blind, va_recv hK hH.1 hq he, fun U hU hWm => ⟨rfl, by rw [hU]; exact hH.1, by rw [hU]; exact hH.2.1, by rw [hU]; exact Nat.le_trans hbs hH.2.2.1, va_K.moved hWm.alike hK, mj_Kc_warm hKc hWm⟩⟩ rfl (by simp at hlen ⊢; omega) hl.1 (by simp [mj_v]) (by
          show 2 * 0 + _ ≤ 8
          have : ((rest.map (mj_v Ω)).map fun v => v.category) = rest.map (fun v => v.category) := by rw [List.map_map]; exact List.map_congr_left (fun v _ => mj_v_cat Ω v)
          rw [this]; omega) hdg ⟨Nat.le_refl _, Nat.le_refl _⟩
      exact mj_after run hH.2.2 hl hk
    · exact hpt.elim
  · exact hpt.elim
theorem mj_callS {μ' : mj_m} {d' k n : Nat} {pt : mj_PT} (hd : d' + 1 ≤ d) (hM : ∀ as M Φ, pt as M Φ → mj_Met Ω l al μ' d' 0 0 as M Φ) (hf : mj_mf μ') (hi : Cond.static μ'.2.2.2.2.2 ∈ mj_GW)
    (hn : mj_np μ' = some n) (hlk : Cond.methodLink (mj_own.getD μ.1 "") k μ'.2.2.2.2.2 ∈ mj_GW) : mj_Call Ω l al μ d k 1 n pt := by
  intro p e s m args below meth c Q pc L as rest M Φ F hdg hlen hW hpt hk H locs ls hH hl
  obtain ⟨hx, hb, hml, hown, hts, hr, hlk2, hK, hin, hbs, hKc⟩ := F
  have hG : GoodIn mj_GW (va_wsS (mj_own.getD μ.1 "") k μ'.2.2.2.2.2 (mj_ws μ')) := by
    intro w hw
    unfold va_wsS mj_ws at hw
    simp only [List.cons_append, List.nil_append, List.mem_cons] at hw
    rcases hw with rfl | rfl | rfl | rfl | hw
    · exact mj_good hlk
    · exact mj_good hi
    · exact mj_good hf.2.1
    · exact mj_good hf.1
    · exact mj_good hw
  have cw := va_cwS (R := mj_rm d 0 0) (s := s) (args := args) (own := mj_own.getD μ.1 "") (index := k) (y := μ'.2.2.2.2.2) (bytes := μ'.2.2.1) (maxL := μ'.2.2.2.1) (ret := μ'.2.2.2.2.1) (ws := mj_ws μ') (rm := mj_rm d' 0 0) (mc := 0) (ms := 0) n hts hG rfl rfl rfl ⟨hf.2.2.2.1, hf.2.2.2.2, hn⟩ ⟨hd, by show 8 + (μ'.2.2.2.1 + 11) + 64 * d' ≤ 64 * d; have := hf.2.2.1; omega⟩
  have run := va_runS (l := l) (e := e) (below := below) (meth := meth) (cells := 0) (slots := 0) (locs := locs) (As := as.map (mj_v Ω)) (rest := rest.map (mj_v Ω)) (g := F0 m pc ls ((as.reverse ++ rest).map (mj_v Ω))) (H := H) ⟨hx, hb, hml, hown, hts⟩ (hM _ _ _ hpt) cw
    ⟨mj_blind, fun U hU hWm => ⟨rfl, by rw [hU]; exact hH.1, by rw [hU]; exact hH.2.1, by rw [hU]; exact Nat.le_trans hbs hH.2.2.1, va_K.moved hWm.alike hK, mj_Kc_warm hKc hWm⟩⟩ rfl (by simpa using hlen) hl.1 (by simp) (by
      show 2 * 0 + _ ≤ 8
      have : ((rest.map (mj_v Ω)).map fun v => v.category) = rest.map (fun v => v.category) := by rw [List.map_map]; exact List.map_congr_left (fun v _ => mj_v_cat Ω v)
      rw [this]; omega) hdg ⟨Nat.le_refl _, Nat.le_refl _⟩
  exact mj_after run hH.2.2 hl hk
end MJE
end
