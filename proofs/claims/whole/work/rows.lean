section
/-- a private method of a class that the tables say can be made, by its rows of tables_1 -/
def lw_okq (q : MethodName × Nat) : Prop := (q.1.cls ≠ "java/lang/invoke/MethodHandle" ∧ q.1.cls ≠ "java/lang/invoke/VarHandle") ∧ Cond.instantiable q.1.cls q.2 ∈ tables_1 ∧ Cond.privateMethod q.1 ∈ tables_1 ∧ Cond.instanceMethod q.1 ∈ tables_1
theorem lw_p0 : lw_okq (⟨"GuildHouse$Reading", "goesOnWith", "(C)Z"⟩, 3) := ⟨⟨by decide +kernel, by decide +kernel⟩, List.mem_of_getElem? (i := 142) (by decide +kernel), List.mem_of_getElem? (i := 405) (by decide +kernel), List.mem_of_getElem? (i := 406) (by decide +kernel)⟩
theorem lw_p1 : lw_okq (⟨"GuildHouse$Reading", "beginsUnit", "(C)Z"⟩, 3) := ⟨⟨by decide +kernel, by decide +kernel⟩, List.mem_of_getElem? (i := 142) (by decide +kernel), List.mem_of_getElem? (i := 409) (by decide +kernel), List.mem_of_getElem? (i := 410) (by decide +kernel)⟩
theorem lw_p2 : lw_okq (⟨"GuildHouse$Reading", "followsUnit", "(C)Z"⟩, 3) := ⟨⟨by decide +kernel, by decide +kernel⟩, List.mem_of_getElem? (i := 142) (by decide +kernel), List.mem_of_getElem? (i := 419) (by decide +kernel), List.mem_of_getElem? (i := 420) (by decide +kernel)⟩
theorem lw_p3 : lw_okq (⟨"GuildHouse$Reading", "isWhole", "()Z"⟩, 3) := ⟨⟨by decide +kernel, by decide +kernel⟩, List.mem_of_getElem? (i := 142) (by decide +kernel), List.mem_of_getElem? (i := 423) (by decide +kernel), List.mem_of_getElem? (i := 424) (by decide +kernel)⟩
theorem lw_p4 : lw_okq (⟨"GuildHouse", "isAskable", "(II)Z"⟩, 12) := ⟨⟨by decide +kernel, by decide +kernel⟩, List.mem_of_getElem? (i := 19) (by decide +kernel), List.mem_of_getElem? (i := 451) (by decide +kernel), List.mem_of_getElem? (i := 452) (by decide +kernel)⟩
theorem lw_p5 : lw_okq (⟨"GuildHouse", "valueOf", "(IIII)I"⟩, 12) := ⟨⟨by decide +kernel, by decide +kernel⟩, List.mem_of_getElem? (i := 19) (by decide +kernel), List.mem_of_getElem? (i := 463) (by decide +kernel), List.mem_of_getElem? (i := 464) (by decide +kernel)⟩
theorem lw_p6 : lw_okq (⟨"GuildHouse$Terms", "pick", "(III)V"⟩, 9) := ⟨⟨by decide +kernel, by decide +kernel⟩, List.mem_of_getElem? (i := 59) (by decide +kernel), List.mem_of_getElem? (i := 474) (by decide +kernel), List.mem_of_getElem? (i := 475) (by decide +kernel)⟩
theorem lw_p7 : lw_okq (⟨"GuildHouse$Terms", "isKnown", "(II)Z"⟩, 9) := ⟨⟨by decide +kernel, by decide +kernel⟩, List.mem_of_getElem? (i := 59) (by decide +kernel), List.mem_of_getElem? (i := 478) (by decide +kernel), List.mem_of_getElem? (i := 479) (by decide +kernel)⟩
theorem lw_p8 : lw_okq (⟨"GuildHouse$Terms", "nextChange", "(II)I"⟩, 9) := ⟨⟨by decide +kernel, by decide +kernel⟩, List.mem_of_getElem? (i := 59) (by decide +kernel), List.mem_of_getElem? (i := 482) (by decide +kernel), List.mem_of_getElem? (i := 483) (by decide +kernel)⟩
theorem lw_p9 : lw_okq (⟨"GuildHouse$Terms", "isOfKind", "(II)Z"⟩, 9) := ⟨⟨by decide +kernel, by decide +kernel⟩, List.mem_of_getElem? (i := 59) (by decide +kernel), List.mem_of_getElem? (i := 487) (by decide +kernel), List.mem_of_getElem? (i := 488) (by decide +kernel)⟩
theorem lw_p10 : lw_okq (⟨"GuildHouse$Pieces", "sumOfPart", "(II)I"⟩, 5) := ⟨⟨by decide +kernel, by decide +kernel⟩, List.mem_of_getElem? (i := 223) (by decide +kernel), List.mem_of_getElem? (i := 511) (by decide +kernel), List.mem_of_getElem? (i := 512) (by decide +kernel)⟩
theorem lw_p11 : lw_okq (⟨"GuildHouse$People", "wasMasterBy", "(II)Z"⟩, 7) := ⟨⟨by decide +kernel, by decide +kernel⟩, List.mem_of_getElem? (i := 27) (by decide +kernel), List.mem_of_getElem? (i := 523) (by decide +kernel), List.mem_of_getElem? (i := 524) (by decide +kernel)⟩
theorem lw_p12 : lw_okq (⟨"GuildHouse", "mayCome", "(III)I"⟩, 12) := ⟨⟨by decide +kernel, by decide +kernel⟩, List.mem_of_getElem? (i := 19) (by decide +kernel), List.mem_of_getElem? (i := 531) (by decide +kernel), List.mem_of_getElem? (i := 532) (by decide +kernel)⟩
theorem lw_p13 : lw_okq (⟨"GuildHouse$Weighing", "settleNumber", "()V"⟩, 7) := ⟨⟨by decide +kernel, by decide +kernel⟩, List.mem_of_getElem? (i := 192) (by decide +kernel), List.mem_of_getElem? (i := 548) (by decide +kernel), List.mem_of_getElem? (i := 549) (by decide +kernel)⟩
theorem lw_p14 : lw_okq (⟨"GuildHouse$Weighing", "compares", "()Z"⟩, 7) := ⟨⟨by decide +kernel, by decide +kernel⟩, List.mem_of_getElem? (i := 192) (by decide +kernel), List.mem_of_getElem? (i := 552) (by decide +kernel), List.mem_of_getElem? (i := 553) (by decide +kernel)⟩
theorem lw_p15 : lw_okq (⟨"GuildHouse$Weighing", "countUnit", "(Z)V"⟩, 7) := ⟨⟨by decide +kernel, by decide +kernel⟩, List.mem_of_getElem? (i := 192) (by decide +kernel), List.mem_of_getElem? (i := 556) (by decide +kernel), List.mem_of_getElem? (i := 557) (by decide +kernel)⟩
def lw_privs_1 : List (MethodName × Nat) := [(⟨"GuildHouse$Reading", "goesOnWith", "(C)Z"⟩, 3), (⟨"GuildHouse$Reading", "beginsUnit", "(C)Z"⟩, 3), (⟨"GuildHouse$Reading", "followsUnit", "(C)Z"⟩, 3), (⟨"GuildHouse$Reading", "isWhole", "()Z"⟩, 3), (⟨"GuildHouse", "isAskable", "(II)Z"⟩, 12), (⟨"GuildHouse", "valueOf", "(IIII)I"⟩, 12), (⟨"GuildHouse$Terms", "pick", "(III)V"⟩, 9), (⟨"GuildHouse$Terms", "isKnown", "(II)Z"⟩, 9), (⟨"GuildHouse$Terms", "nextChange", "(II)I"⟩, 9), (⟨"GuildHouse$Terms", "isOfKind", "(II)Z"⟩, 9), (⟨"GuildHouse$Pieces", "sumOfPart", "(II)I"⟩, 5), (⟨"GuildHouse$People", "wasMasterBy", "(II)Z"⟩, 7), (⟨"GuildHouse", "mayCome", "(III)I"⟩, 12), (⟨"GuildHouse$Weighing", "settleNumber", "()V"⟩, 7), (⟨"GuildHouse$Weighing", "compares", "()Z"⟩, 7), (⟨"GuildHouse$Weighing", "countUnit", "(Z)V"⟩, 7)]
theorem lw_r1 : ∀ q ∈ lw_privs_1, lw_okq q := List.forall_mem_cons.mpr ⟨lw_p0, List.forall_mem_cons.mpr ⟨lw_p1, List.forall_mem_cons.mpr ⟨lw_p2, List.forall_mem_cons.mpr ⟨lw_p3, List.forall_mem_cons.mpr ⟨lw_p4, List.forall_mem_cons.mpr ⟨lw_p5, List.forall_mem_cons.mpr ⟨lw_p6, List.forall_mem_cons.mpr ⟨lw_p7, List.forall_mem_cons.mpr ⟨lw_p8, List.forall_mem_cons.mpr ⟨lw_p9, List.forall_mem_cons.mpr ⟨lw_p10, List.forall_mem_cons.mpr ⟨lw_p11, List.forall_mem_cons.mpr ⟨lw_p12, List.forall_mem_cons.mpr ⟨lw_p13, List.forall_mem_cons.mpr ⟨lw_p14, List.forall_mem_cons.mpr ⟨lw_p15, fun _ h => absurd h List.not_mem_nil⟩⟩⟩⟩⟩⟩⟩⟩⟩⟩⟩⟩⟩⟩⟩⟩
theorem lw_p16 : lw_okq (⟨"GuildHouse$Weighing", "valueOfWord", "(C)I"⟩, 7) := ⟨⟨by decide +kernel, by decide +kernel⟩, List.mem_of_getElem? (i := 192) (by decide +kernel), List.mem_of_getElem? (i := 561) (by decide +kernel), List.mem_of_getElem? (i := 562) (by decide +kernel)⟩
theorem lw_p17 : lw_okq (⟨"GuildHouse$Weighing", "takeJoint", "(C)V"⟩, 7) := ⟨⟨by decide +kernel, by decide +kernel⟩, List.mem_of_getElem? (i := 192) (by decide +kernel), List.mem_of_getElem? (i := 565) (by decide +kernel), List.mem_of_getElem? (i := 566) (by decide +kernel)⟩
theorem lw_p18 : lw_okq (⟨"GuildHouse$Weighing", "holdsHere", "()Z"⟩, 7) := ⟨⟨by decide +kernel, by decide +kernel⟩, List.mem_of_getElem? (i := 192) (by decide +kernel), List.mem_of_getElem? (i := 569) (by decide +kernel), List.mem_of_getElem? (i := 570) (by decide +kernel)⟩
theorem lw_p19 : lw_okq (⟨"GuildHouse", "seatFitJudges", "(I)I"⟩, 12) := ⟨⟨by decide +kernel, by decide +kernel⟩, List.mem_of_getElem? (i := 19) (by decide +kernel), List.mem_of_getElem? (i := 593) (by decide +kernel), List.mem_of_getElem? (i := 594) (by decide +kernel)⟩
theorem lw_p20 : lw_okq (⟨"GuildHouse$People", "isParentOf", "(II)Z"⟩, 7) := ⟨⟨by decide +kernel, by decide +kernel⟩, List.mem_of_getElem? (i := 27) (by decide +kernel), List.mem_of_getElem? (i := 601) (by decide +kernel), List.mem_of_getElem? (i := 602) (by decide +kernel)⟩
theorem lw_p21 : lw_okq (⟨"GuildHouse$People", "shareParent", "(II)Z"⟩, 7) := ⟨⟨by decide +kernel, by decide +kernel⟩, List.mem_of_getElem? (i := 27) (by decide +kernel), List.mem_of_getElem? (i := 605) (by decide +kernel), List.mem_of_getElem? (i := 606) (by decide +kernel)⟩
theorem lw_p22 : lw_okq (⟨"GuildHouse$Pieces", "drawJudges", "(I[IIJ)V"⟩, 5) := ⟨⟨by decide +kernel, by decide +kernel⟩, List.mem_of_getElem? (i := 223) (by decide +kernel), List.mem_of_getElem? (i := 617) (by decide +kernel), List.mem_of_getElem? (i := 618) (by decide +kernel)⟩
theorem lw_p23 : lw_okq (⟨"GuildHouse$Pieces", "allGiven", "(I)Z"⟩, 5) := ⟨⟨by decide +kernel, by decide +kernel⟩, List.mem_of_getElem? (i := 223) (by decide +kernel), List.mem_of_getElem? (i := 650) (by decide +kernel), List.mem_of_getElem? (i := 651) (by decide +kernel)⟩
theorem lw_p24 : lw_okq (⟨"GuildHouse", "numberNow", "()I"⟩, 12) := ⟨⟨by decide +kernel, by decide +kernel⟩, List.mem_of_getElem? (i := 19) (by decide +kernel), List.mem_of_getElem? (i := 686) (by decide +kernel), List.mem_of_getElem? (i := 687) (by decide +kernel)⟩
theorem lw_p25 : lw_okq (⟨"java/lang/Throwable", "fillInStackTrace", "(I)Ljava/lang/Throwable;"⟩, 6) := ⟨⟨by decide +kernel, by decide +kernel⟩, List.mem_of_getElem? (i := 752) (by decide +kernel), List.mem_of_getElem? (i := 750) (by decide +kernel), List.mem_of_getElem? (i := 751) (by decide +kernel)⟩
theorem lw_p26 : lw_okq (⟨"GuildHouseModel", "isPerson", "(I)Z"⟩, 49) := ⟨⟨by decide +kernel, by decide +kernel⟩, List.mem_of_getElem? (i := 783) (by decide +kernel), List.mem_of_getElem? (i := 946) (by decide +kernel), List.mem_of_getElem? (i := 947) (by decide +kernel)⟩
theorem lw_p27 : lw_okq (⟨"GuildHouseModel", "isAlive", "(I)Z"⟩, 49) := ⟨⟨by decide +kernel, by decide +kernel⟩, List.mem_of_getElem? (i := 783) (by decide +kernel), List.mem_of_getElem? (i := 954) (by decide +kernel), List.mem_of_getElem? (i := 955) (by decide +kernel)⟩
theorem lw_p28 : lw_okq (⟨"GuildHouseModel", "isMaster", "(I)Z"⟩, 49) := ⟨⟨by decide +kernel, by decide +kernel⟩, List.mem_of_getElem? (i := 783) (by decide +kernel), List.mem_of_getElem? (i := 958) (by decide +kernel), List.mem_of_getElem? (i := 959) (by decide +kernel)⟩
theorem lw_p29 : lw_okq (⟨"GuildHouseModel", "areKin", "(II)Z"⟩, 49) := ⟨⟨by decide +kernel, by decide +kernel⟩, List.mem_of_getElem? (i := 783) (by decide +kernel), List.mem_of_getElem? (i := 977) (by decide +kernel), List.mem_of_getElem? (i := 978) (by decide +kernel)⟩
theorem lw_p30 : lw_okq (⟨"GuildHouseModel", "isParent", "(II)Z"⟩, 49) := ⟨⟨by decide +kernel, by decide +kernel⟩, List.mem_of_getElem? (i := 783) (by decide +kernel), List.mem_of_getElem? (i := 981) (by decide +kernel), List.mem_of_getElem? (i := 982) (by decide +kernel)⟩
theorem lw_p31 : lw_okq (⟨"GuildHouseModel", "isAsked", "(III)Z"⟩, 49) := ⟨⟨by decide +kernel, by decide +kernel⟩, List.mem_of_getElem? (i := 783) (by decide +kernel), List.mem_of_getElem? (i := 1001) (by decide +kernel), List.mem_of_getElem? (i := 1002) (by decide +kernel)⟩
def lw_privs_2 : List (MethodName × Nat) := [(⟨"GuildHouse$Weighing", "valueOfWord", "(C)I"⟩, 7), (⟨"GuildHouse$Weighing", "takeJoint", "(C)V"⟩, 7), (⟨"GuildHouse$Weighing", "holdsHere", "()Z"⟩, 7), (⟨"GuildHouse", "seatFitJudges", "(I)I"⟩, 12), (⟨"GuildHouse$People", "isParentOf", "(II)Z"⟩, 7), (⟨"GuildHouse$People", "shareParent", "(II)Z"⟩, 7), (⟨"GuildHouse$Pieces", "drawJudges", "(I[IIJ)V"⟩, 5), (⟨"GuildHouse$Pieces", "allGiven", "(I)Z"⟩, 5), (⟨"GuildHouse", "numberNow", "()I"⟩, 12), (⟨"java/lang/Throwable", "fillInStackTrace", "(I)Ljava/lang/Throwable;"⟩, 6), (⟨"GuildHouseModel", "isPerson", "(I)Z"⟩, 49), (⟨"GuildHouseModel", "isAlive", "(I)Z"⟩, 49), (⟨"GuildHouseModel", "isMaster", "(I)Z"⟩, 49), (⟨"GuildHouseModel", "areKin", "(II)Z"⟩, 49), (⟨"GuildHouseModel", "isParent", "(II)Z"⟩, 49), (⟨"GuildHouseModel", "isAsked", "(III)Z"⟩, 49)]
theorem lw_r2 : ∀ q ∈ lw_privs_2, lw_okq q := List.forall_mem_cons.mpr ⟨lw_p16, List.forall_mem_cons.mpr ⟨lw_p17, List.forall_mem_cons.mpr ⟨lw_p18, List.forall_mem_cons.mpr ⟨lw_p19, List.forall_mem_cons.mpr ⟨lw_p20, List.forall_mem_cons.mpr ⟨lw_p21, List.forall_mem_cons.mpr ⟨lw_p22, List.forall_mem_cons.mpr ⟨lw_p23, List.forall_mem_cons.mpr ⟨lw_p24, List.forall_mem_cons.mpr ⟨lw_p25, List.forall_mem_cons.mpr ⟨lw_p26, List.forall_mem_cons.mpr ⟨lw_p27, List.forall_mem_cons.mpr ⟨lw_p28, List.forall_mem_cons.mpr ⟨lw_p29, List.forall_mem_cons.mpr ⟨lw_p30, List.forall_mem_cons.mpr ⟨lw_p31, fun _ h => absurd h List.not_mem_nil⟩⟩⟩⟩⟩⟩⟩⟩⟩⟩⟩⟩⟩⟩⟩⟩
theorem lw_p32 : lw_okq (⟨"GuildHouseModel", "values", "(III)V"⟩, 49) := ⟨⟨by decide +kernel, by decide +kernel⟩, List.mem_of_getElem? (i := 783) (by decide +kernel), List.mem_of_getElem? (i := 1005) (by decide +kernel), List.mem_of_getElem? (i := 1006) (by decide +kernel)⟩
theorem lw_p33 : lw_okq (⟨"GuildHouseModel", "mark", "(III)V"⟩, 49) := ⟨⟨by decide +kernel, by decide +kernel⟩, List.mem_of_getElem? (i := 783) (by decide +kernel), List.mem_of_getElem? (i := 1009) (by decide +kernel), List.mem_of_getElem? (i := 1010) (by decide +kernel)⟩
theorem lw_p34 : lw_okq (⟨"GuildHouseModel", "isKnown", "(II)Z"⟩, 49) := ⟨⟨by decide +kernel, by decide +kernel⟩, List.mem_of_getElem? (i := 783) (by decide +kernel), List.mem_of_getElem? (i := 1013) (by decide +kernel), List.mem_of_getElem? (i := 1014) (by decide +kernel)⟩
theorem lw_p35 : lw_okq (⟨"GuildHouseModel", "wasMaster", "(III)Z"⟩, 49) := ⟨⟨by decide +kernel, by decide +kernel⟩, List.mem_of_getElem? (i := 783) (by decide +kernel), List.mem_of_getElem? (i := 1017) (by decide +kernel), List.mem_of_getElem? (i := 1018) (by decide +kernel)⟩
theorem lw_p36 : lw_okq (⟨"GuildHouseModel", "holds", "([BII)Z"⟩, 49) := ⟨⟨by decide +kernel, by decide +kernel⟩, List.mem_of_getElem? (i := 783) (by decide +kernel), List.mem_of_getElem? (i := 1033) (by decide +kernel), List.mem_of_getElem? (i := 1034) (by decide +kernel)⟩
theorem lw_p37 : lw_okq (⟨"GuildHouseModel", "tests", "()Z"⟩, 49) := ⟨⟨by decide +kernel, by decide +kernel⟩, List.mem_of_getElem? (i := 783) (by decide +kernel), List.mem_of_getElem? (i := 1037) (by decide +kernel), List.mem_of_getElem? (i := 1038) (by decide +kernel)⟩
theorem lw_p38 : lw_okq (⟨"GuildHouseModel", "part", "()Z"⟩, 49) := ⟨⟨by decide +kernel, by decide +kernel⟩, List.mem_of_getElem? (i := 783) (by decide +kernel), List.mem_of_getElem? (i := 1041) (by decide +kernel), List.mem_of_getElem? (i := 1042) (by decide +kernel)⟩
theorem lw_p39 : lw_okq (⟨"GuildHouseModel", "unit", "()Z"⟩, 49) := ⟨⟨by decide +kernel, by decide +kernel⟩, List.mem_of_getElem? (i := 783) (by decide +kernel), List.mem_of_getElem? (i := 1045) (by decide +kernel), List.mem_of_getElem? (i := 1046) (by decide +kernel)⟩
theorem lw_p40 : lw_okq (⟨"GuildHouseModel", "look", "()I"⟩, 49) := ⟨⟨by decide +kernel, by decide +kernel⟩, List.mem_of_getElem? (i := 783) (by decide +kernel), List.mem_of_getElem? (i := 1049) (by decide +kernel), List.mem_of_getElem? (i := 1050) (by decide +kernel)⟩
theorem lw_p41 : lw_okq (⟨"GuildHouseModel", "wrong", "()V"⟩, 49) := ⟨⟨by decide +kernel, by decide +kernel⟩, List.mem_of_getElem? (i := 783) (by decide +kernel), List.mem_of_getElem? (i := 1053) (by decide +kernel), List.mem_of_getElem? (i := 1054) (by decide +kernel)⟩
theorem lw_p42 : lw_okq (⟨"GuildHouseModel", "inForce", "(II)I"⟩, 49) := ⟨⟨by decide +kernel, by decide +kernel⟩, List.mem_of_getElem? (i := 783) (by decide +kernel), List.mem_of_getElem? (i := 1065) (by decide +kernel), List.mem_of_getElem? (i := 1066) (by decide +kernel)⟩
theorem lw_p43 : lw_okq (⟨"GuildHouseModel", "mayCome", "(III)I"⟩, 49) := ⟨⟨by decide +kernel, by decide +kernel⟩, List.mem_of_getElem? (i := 783) (by decide +kernel), List.mem_of_getElem? (i := 1073) (by decide +kernel), List.mem_of_getElem? (i := 1074) (by decide +kernel)⟩
theorem lw_p44 : lw_okq (⟨"GuildHouseModel", "lets", "(I)Z"⟩, 49) := ⟨⟨by decide +kernel, by decide +kernel⟩, List.mem_of_getElem? (i := 783) (by decide +kernel), List.mem_of_getElem? (i := 1077) (by decide +kernel), List.mem_of_getElem? (i := 1078) (by decide +kernel)⟩
theorem lw_p45 : lw_okq (⟨"GuildHouseModel", "mayJudge", "(II)Z"⟩, 49) := ⟨⟨by decide +kernel, by decide +kernel⟩, List.mem_of_getElem? (i := 783) (by decide +kernel), List.mem_of_getElem? (i := 1085) (by decide +kernel), List.mem_of_getElem? (i := 1086) (by decide +kernel)⟩
theorem lw_p46 : lw_okq (⟨"GuildHouseModel", "isPiece", "(I)Z"⟩, 49) := ⟨⟨by decide +kernel, by decide +kernel⟩, List.mem_of_getElem? (i := 783) (by decide +kernel), List.mem_of_getElem? (i := 1095) (by decide +kernel), List.mem_of_getElem? (i := 1096) (by decide +kernel)⟩
theorem lw_p47 : lw_okq (⟨"GuildHouseModel", "handsOf", "(I)I"⟩, 49) := ⟨⟨by decide +kernel, by decide +kernel⟩, List.mem_of_getElem? (i := 783) (by decide +kernel), List.mem_of_getElem? (i := 1123) (by decide +kernel), List.mem_of_getElem? (i := 1124) (by decide +kernel)⟩
def lw_privs_3 : List (MethodName × Nat) := [(⟨"GuildHouseModel", "values", "(III)V"⟩, 49), (⟨"GuildHouseModel", "mark", "(III)V"⟩, 49), (⟨"GuildHouseModel", "isKnown", "(II)Z"⟩, 49), (⟨"GuildHouseModel", "wasMaster", "(III)Z"⟩, 49), (⟨"GuildHouseModel", "holds", "([BII)Z"⟩, 49), (⟨"GuildHouseModel", "tests", "()Z"⟩, 49), (⟨"GuildHouseModel", "part", "()Z"⟩, 49), (⟨"GuildHouseModel", "unit", "()Z"⟩, 49), (⟨"GuildHouseModel", "look", "()I"⟩, 49), (⟨"GuildHouseModel", "wrong", "()V"⟩, 49), (⟨"GuildHouseModel", "inForce", "(II)I"⟩, 49), (⟨"GuildHouseModel", "mayCome", "(III)I"⟩, 49), (⟨"GuildHouseModel", "lets", "(I)Z"⟩, 49), (⟨"GuildHouseModel", "mayJudge", "(II)Z"⟩, 49), (⟨"GuildHouseModel", "isPiece", "(I)Z"⟩, 49), (⟨"GuildHouseModel", "handsOf", "(I)I"⟩, 49)]
theorem lw_r3 : ∀ q ∈ lw_privs_3, lw_okq q := List.forall_mem_cons.mpr ⟨lw_p32, List.forall_mem_cons.mpr ⟨lw_p33, List.forall_mem_cons.mpr ⟨lw_p34, List.forall_mem_cons.mpr ⟨lw_p35, List.forall_mem_cons.mpr ⟨lw_p36, List.forall_mem_cons.mpr ⟨lw_p37, List.forall_mem_cons.mpr ⟨lw_p38, List.forall_mem_cons.mpr ⟨lw_p39, List.forall_mem_cons.mpr ⟨lw_p40, List.forall_mem_cons.mpr ⟨lw_p41, List.forall_mem_cons.mpr ⟨lw_p42, List.forall_mem_cons.mpr ⟨lw_p43, List.forall_mem_cons.mpr ⟨lw_p44, List.forall_mem_cons.mpr ⟨lw_p45, List.forall_mem_cons.mpr ⟨lw_p46, List.forall_mem_cons.mpr ⟨lw_p47, fun _ h => absurd h List.not_mem_nil⟩⟩⟩⟩⟩⟩⟩⟩⟩⟩⟩⟩⟩⟩⟩⟩
def lw_privs : List (MethodName × Nat) := lw_privs_1 ++ (lw_privs_2 ++ (lw_privs_3))
def lw_tbl : List Cond := k2_sels lw_privs ++ tables_1
theorem lw_privs_ok : ∀ q ∈ lw_privs, lw_okq q := by
  show ∀ q ∈ lw_privs_1 ++ (lw_privs_2 ++ (lw_privs_3)), lw_okq q
  exact List.forall_mem_append.mpr ⟨lw_r1, List.forall_mem_append.mpr ⟨lw_r2, lw_r3⟩⟩
end
section
def RX0 : String := "GuildHouse$Draft"
def TX0 : u_T := fun k => match k with
  | 0 => ("GuildHouse$Draft", "signs", "[C", true)
  | _ => ("GuildHouse$Draft", "length", "I", false)
def tyX0 : Nat → FieldType := fun k => match k with
  | 0 => .array .char
  | _ => .int
abbrev wsX00 : List Cond := u_ws RX0 TX0 2
theorem nmX0 : ∀ a, a < 2 → ∀ b, b < 2 → a ≠ b → (TX0 a).2.1 ≠ (TX0 b).2.1 := by decide +kernel
theorem tyX0_ok : ∀ k, k < 2 → parseFieldDescriptor (TX0 k).2.2.1 = some (tyX0 k) := by decide +kernel
abbrev cX0_init : ByteArray := prog_2_method_1_code
def yX0_init : MethodName := ⟨RX0, "<init>", "()V"⟩
abbrev cX0_hasRoomFor : ByteArray := prog_2_method_2_code
def yX0_hasRoomFor : MethodName := ⟨RX0, "hasRoomFor", "(I)Z"⟩
abbrev cX0_add : ByteArray := prog_2_method_3_code
def yX0_add : MethodName := ⟨RX0, "add", "(I)V"⟩
abbrev cX0_byteOf : ByteArray := prog_2_method_4_code
def yX0_byteOf : MethodName := ⟨RX0, "byteOf", "(II)I"⟩
def RX1 : String := "GuildHouse$Edicts"
def TX1 : u_T := fun k => match k with
  | 0 => ("GuildHouse$Edicts", "from", "[I", true)
  | 1 => ("GuildHouse$Edicts", "toldOn", "[I", true)
  | _ => ("GuildHouse$Edicts", "size", "I", false)
def tyX1 : Nat → FieldType := fun k => match k with
  | 0 => .array .int
  | 1 => .array .int
  | _ => .int
abbrev wsX10 : List Cond := u_ws RX1 TX1 3
theorem nmX1 : ∀ a, a < 3 → ∀ b, b < 3 → a ≠ b → (TX1 a).2.1 ≠ (TX1 b).2.1 := by decide +kernel
theorem tyX1_ok : ∀ k, k < 3 → parseFieldDescriptor (TX1 k).2.2.1 = some (tyX1 k) := by decide +kernel
abbrev cX1_init : ByteArray := prog_3_method_1_code
def yX1_init : MethodName := ⟨RX1, "<init>", "()V"⟩
abbrev cX1_isFull : ByteArray := prog_3_method_2_code
def yX1_isFull : MethodName := ⟨RX1, "isFull", "()Z"⟩
abbrev cX1_add : ByteArray := prog_3_method_3_code
def yX1_add : MethodName := ⟨RX1, "add", "(II)I"⟩
abbrev cX1_inForce : ByteArray := prog_3_method_4_code
def yX1_inForce : MethodName := ⟨RX1, "inForce", "(II)I"⟩
def RX2 : String := "GuildHouse$Gifts"
def TX2 : u_T := fun k => match k with
  | 0 => ("GuildHouse$Gifts", "giver", "[I", true)
  | 1 => ("GuildHouse$Gifts", "letters", "[I", true)
  | 2 => ("GuildHouse$Gifts", "coins", "[I", true)
  | 3 => ("GuildHouse$Gifts", "toldOn", "[I", true)
  | _ => ("GuildHouse$Gifts", "size", "I", false)
def tyX2 : Nat → FieldType := fun k => match k with
  | 0 => .array .int
  | 1 => .array .int
  | 2 => .array .int
  | 3 => .array .int
  | _ => .int
abbrev wsX20 : List Cond := u_ws RX2 TX2 5
theorem nmX2 : ∀ a, a < 5 → ∀ b, b < 5 → a ≠ b → (TX2 a).2.1 ≠ (TX2 b).2.1 := by decide +kernel
theorem tyX2_ok : ∀ k, k < 5 → parseFieldDescriptor (TX2 k).2.2.1 = some (tyX2 k) := by decide +kernel
abbrev cX2_init : ByteArray := prog_4_method_1_code
def yX2_init : MethodName := ⟨RX2, "<init>", "()V"⟩
abbrev cX2_isFull : ByteArray := prog_4_method_2_code
def yX2_isFull : MethodName := ⟨RX2, "isFull", "()Z"⟩
abbrev cX2_add : ByteArray := prog_4_method_3_code
def yX2_add : MethodName := ⟨RX2, "add", "(IIII)V"⟩
abbrev cX2_sum : ByteArray := prog_4_method_4_code
def yX2_sum : MethodName := ⟨RX2, "sum", "([III)I"⟩
def RX3 : String := "GuildHouse$People"
def TX3 : u_T := fun k => match k with
  | 0 => ("GuildHouse$People", "parent", "[I", true)
  | 1 => ("GuildHouse$People", "other", "[I", true)
  | 2 => ("GuildHouse$People", "masterSince", "[I", true)
  | 3 => ("GuildHouse$People", "diedOn", "[I", true)
  | 4 => ("GuildHouse$People", "shop", "[I", true)
  | 5 => ("GuildHouse$People", "excessUntil", "[I", true)
  | _ => ("GuildHouse$People", "size", "I", false)
def tyX3 : Nat → FieldType := fun k => match k with
  | 0 => .array .int
  | 1 => .array .int
  | 2 => .array .int
  | 3 => .array .int
  | 4 => .array .int
  | 5 => .array .int
  | _ => .int
abbrev wsX30 : List Cond := u_ws RX3 TX3 7
theorem nmX3 : ∀ a, a < 7 → ∀ b, b < 7 → a ≠ b → (TX3 a).2.1 ≠ (TX3 b).2.1 := by decide +kernel
theorem tyX3_ok : ∀ k, k < 7 → parseFieldDescriptor (TX3 k).2.2.1 = some (tyX3 k) := by decide +kernel
abbrev cX3_init : ByteArray := prog_5_method_1_code
def yX3_init : MethodName := ⟨RX3, "<init>", "()V"⟩
abbrev cX3_isFull : ByteArray := prog_5_method_2_code
def yX3_isFull : MethodName := ⟨RX3, "isFull", "()Z"⟩
abbrev cX3_has : ByteArray := prog_5_method_3_code
def yX3_has : MethodName := ⟨RX3, "has", "(I)Z"⟩
abbrev cX3_isParent : ByteArray := prog_5_method_4_code
def yX3_isParent : MethodName := ⟨RX3, "isParent", "(I)Z"⟩
abbrev cX3_isAlive : ByteArray := prog_5_method_5_code
def yX3_isAlive : MethodName := ⟨RX3, "isAlive", "(I)Z"⟩
abbrev cX3_isMaster : ByteArray := prog_5_method_6_code
def yX3_isMaster : MethodName := ⟨RX3, "isMaster", "(I)Z"⟩
abbrev cX3_add : ByteArray := prog_5_method_7_code
def yX3_add : MethodName := ⟨RX3, "add", "(II)I"⟩
abbrev cX3_raise : ByteArray := prog_5_method_8_code
def yX3_raise : MethodName := ⟨RX3, "raise", "(II)V"⟩
abbrev cX3_bury : ByteArray := prog_5_method_9_code
def yX3_bury : MethodName := ⟨RX3, "bury", "(III)V"⟩
abbrev cX3_areKin : ByteArray := prog_5_method_10_code
def yX3_areKin : MethodName := ⟨RX3, "areKin", "(II)Z"⟩
abbrev cX3_isParentOf : ByteArray := prog_5_method_11_code
def yX3_isParentOf : MethodName := ⟨RX3, "isParentOf", "(II)Z"⟩
abbrev cX3_shareParent : ByteArray := prog_5_method_12_code
def yX3_shareParent : MethodName := ⟨RX3, "shareParent", "(II)Z"⟩
abbrev cX3_isChildOfMaster : ByteArray := prog_5_method_13_code
def yX3_isChildOfMaster : MethodName := ⟨RX3, "isChildOfMaster", "(II)Z"⟩
abbrev cX3_wasMasterBy : ByteArray := prog_5_method_14_code
def yX3_wasMasterBy : MethodName := ⟨RX3, "wasMasterBy", "(II)Z"⟩
abbrev cX3_masters : ByteArray := prog_5_method_15_code
def yX3_masters : MethodName := ⟨RX3, "masters", "()I"⟩
abbrev cX3_handsOf : ByteArray := prog_5_method_16_code
def yX3_handsOf : MethodName := ⟨RX3, "handsOf", "(I)I"⟩
abbrev cX3_allHands : ByteArray := prog_5_method_17_code
def yX3_allHands : MethodName := ⟨RX3, "allHands", "()I"⟩
def RX4 : String := "GuildHouse$Pieces"
def TX4 : u_T := fun k => match k with
  | 0 => ("GuildHouse$Pieces", "owner", "[I", true)
  | 1 => ("GuildHouse$Pieces", "doneOn", "[I", true)
  | 2 => ("GuildHouse$Pieces", "drawn", "[I", true)
  | 3 => ("GuildHouse$Pieces", "given", "[I", true)
  | _ => ("GuildHouse$Pieces", "size", "I", false)
def tyX4 : Nat → FieldType := fun k => match k with
  | 0 => .array .int
  | 1 => .array .int
  | 2 => .array .int
  | 3 => .array .int
  | _ => .int
abbrev wsX40 : List Cond := u_ws RX4 TX4 5
theorem nmX4 : ∀ a, a < 5 → ∀ b, b < 5 → a ≠ b → (TX4 a).2.1 ≠ (TX4 b).2.1 := by decide +kernel
theorem tyX4_ok : ∀ k, k < 5 → parseFieldDescriptor (TX4 k).2.2.1 = some (tyX4 k) := by decide +kernel
abbrev cX4_init : ByteArray := prog_6_method_1_code
def yX4_init : MethodName := ⟨RX4, "<init>", "()V"⟩
abbrev cX4_isFull : ByteArray := prog_6_method_2_code
def yX4_isFull : MethodName := ⟨RX4, "isFull", "()Z"⟩
abbrev cX4_has : ByteArray := prog_6_method_3_code
def yX4_has : MethodName := ⟨RX4, "has", "(I)Z"⟩
abbrev cX4_isJudge : ByteArray := prog_6_method_4_code
def yX4_isJudge : MethodName := ⟨RX4, "isJudge", "(I)Z"⟩
abbrev cX4_isPart : ByteArray := prog_6_method_5_code
def yX4_isPart : MethodName := ⟨RX4, "isPart", "(I)Z"⟩
abbrev cX4_isDone : ByteArray := prog_6_method_6_code
def yX4_isDone : MethodName := ⟨RX4, "isDone", "(I)Z"⟩
abbrev cX4_isPassed : ByteArray := prog_6_method_7_code
def yX4_isPassed : MethodName := ⟨RX4, "isPassed", "(I)Z"⟩
abbrev cX4_hasOpen : ByteArray := prog_6_method_8_code
def yX4_hasOpen : MethodName := ⟨RX4, "hasOpen", "(I)Z"⟩
abbrev cX4_judgeOf : ByteArray := prog_6_method_9_code
def yX4_judgeOf : MethodName := ⟨RX4, "judgeOf", "(II)I"⟩
abbrev cX4_add : ByteArray := prog_6_method_10_code
def yX4_add : MethodName := ⟨RX4, "add", "(I[IIJ)I"⟩
abbrev cX4_drawJudges : ByteArray := prog_6_method_11_code
def yX4_drawJudges : MethodName := ⟨RX4, "drawJudges", "(I[IIJ)V"⟩
abbrev cX4_setPoints : ByteArray := prog_6_method_12_code
def yX4_setPoints : MethodName := ⟨RX4, "setPoints", "(IIIII)V"⟩
abbrev cX4_allGiven : ByteArray := prog_6_method_13_code
def yX4_allGiven : MethodName := ⟨RX4, "allGiven", "(I)Z"⟩
abbrev cX4_markOf : ByteArray := prog_6_method_14_code
def yX4_markOf : MethodName := ⟨RX4, "markOf", "(I)I"⟩
abbrev cX4_refusedPart : ByteArray := prog_6_method_15_code
def yX4_refusedPart : MethodName := ⟨RX4, "refusedPart", "(I)I"⟩
abbrev cX4_sumOfPart : ByteArray := prog_6_method_16_code
def yX4_sumOfPart : MethodName := ⟨RX4, "sumOfPart", "(II)I"⟩
abbrev cX4_latestMark : ByteArray := prog_6_method_17_code
def yX4_latestMark : MethodName := ⟨RX4, "latestMark", "(II)I"⟩
def RX5 : String := "GuildHouse$Reading"
def TX5 : u_T := fun k => match k with
  | 0 => ("GuildHouse$Reading", "place", "I", false)
  | 1 => ("GuildHouse$Reading", "open", "I", false)
  | _ => ("GuildHouse$Reading", "digits", "I", false)
def tyX5 : Nat → FieldType := fun k => match k with
  | 0 => .int
  | 1 => .int
  | _ => .int
abbrev wsX50 : List Cond := u_ws RX5 TX5 3
theorem nmX5 : ∀ a, a < 3 → ∀ b, b < 3 → a ≠ b → (TX5 a).2.1 ≠ (TX5 b).2.1 := by decide +kernel
theorem tyX5_ok : ∀ k, k < 3 → parseFieldDescriptor (TX5 k).2.2.1 = some (tyX5 k) := by decide +kernel
abbrev cX5_init : ByteArray := prog_7_method_1_code
def yX5_init : MethodName := ⟨RX5, "<init>", "()V"⟩
abbrev cX5_firstFault : ByteArray := prog_7_method_2_code
def yX5_firstFault : MethodName := ⟨RX5, "firstFault", "([CI)I"⟩
abbrev cX5_isWhole : ByteArray := prog_7_method_3_code
def yX5_isWhole : MethodName := ⟨RX5, "isWhole", "()Z"⟩
abbrev cX5_goesOnWith : ByteArray := prog_7_method_4_code
def yX5_goesOnWith : MethodName := ⟨RX5, "goesOnWith", "(C)Z"⟩
abbrev cX5_beginsUnit : ByteArray := prog_7_method_5_code
def yX5_beginsUnit : MethodName := ⟨RX5, "beginsUnit", "(C)Z"⟩
abbrev cX5_followsUnit : ByteArray := prog_7_method_6_code
def yX5_followsUnit : MethodName := ⟨RX5, "followsUnit", "(C)Z"⟩
abbrev cX5_isDigit : ByteArray := prog_7_method_7_code
def yX5_isDigit : MethodName := ⟨RX5, "isDigit", "(C)Z"⟩
abbrev cX5_isWord : ByteArray := prog_7_method_8_code
def yX5_isWord : MethodName := ⟨RX5, "isWord", "(C)Z"⟩
def RX6 : String := "GuildHouse$Statutes"
def TX6 : u_T := fun k => match k with
  | 0 => ("GuildHouse$Statutes", "edicts", "LGuildHouse$Edicts;", true)
  | 1 => ("GuildHouse$Statutes", "signs", "[C", true)
  | _ => ("GuildHouse$Statutes", "length", "[I", true)
def tyX6 : Nat → FieldType := fun k => match k with
  | 0 => .object "GuildHouse$Edicts"
  | 1 => .array .char
  | _ => .array .int
abbrev wsX60 : List Cond := u_ws RX6 TX6 3
theorem nmX6 : ∀ a, a < 3 → ∀ b, b < 3 → a ≠ b → (TX6 a).2.1 ≠ (TX6 b).2.1 := by decide +kernel
theorem tyX6_ok : ∀ k, k < 3 → parseFieldDescriptor (TX6 k).2.2.1 = some (tyX6 k) := by decide +kernel
abbrev cX6_init : ByteArray := prog_8_method_1_code
def yX6_init : MethodName := ⟨RX6, "<init>", "()V"⟩
abbrev cX6_add : ByteArray := prog_8_method_2_code
def yX6_add : MethodName := ⟨RX6, "add", "(LGuildHouse$Draft;II)I"⟩
abbrev cX6_holds : ByteArray := prog_8_method_3_code
def yX6_holds : MethodName := ⟨RX6, "holds", "(ILGuildHouse$Weighing;)Z"⟩
def RX7 : String := "GuildHouse$Terms"
def TX7 : u_T := fun k => match k with
  | 0 => ("GuildHouse$Terms", "servant", "[I", true)
  | 1 => ("GuildHouse$Terms", "master", "[I", true)
  | 2 => ("GuildHouse$Terms", "from", "[I", true)
  | 3 => ("GuildHouse$Terms", "to", "[I", true)
  | 4 => ("GuildHouse$Terms", "toldOn", "[I", true)
  | 5 => ("GuildHouse$Terms", "backOn", "[I", true)
  | 6 => ("GuildHouse$Terms", "size", "I", false)
  | 7 => ("GuildHouse$Terms", "picked", "[I", true)
  | _ => ("GuildHouse$Terms", "pickedSize", "I", false)
def tyX7 : Nat → FieldType := fun k => match k with
  | 0 => .array .int
  | 1 => .array .int
  | 2 => .array .int
  | 3 => .array .int
  | 4 => .array .int
  | 5 => .array .int
  | 6 => .int
  | 7 => .array .int
  | _ => .int
abbrev wsX70 : List Cond := u_ws RX7 TX7 9
theorem nmX7 : ∀ a, a < 9 → ∀ b, b < 9 → a ≠ b → (TX7 a).2.1 ≠ (TX7 b).2.1 := by decide +kernel
theorem tyX7_ok : ∀ k, k < 9 → parseFieldDescriptor (TX7 k).2.2.1 = some (tyX7 k) := by decide +kernel
abbrev cX7_init : ByteArray := prog_9_method_1_code
def yX7_init : MethodName := ⟨RX7, "<init>", "()V"⟩
abbrev cX7_isFull : ByteArray := prog_9_method_2_code
def yX7_isFull : MethodName := ⟨RX7, "isFull", "()Z"⟩
abbrev cX7_has : ByteArray := prog_9_method_3_code
def yX7_has : MethodName := ⟨RX7, "has", "(I)Z"⟩
abbrev cX7_isTakenBack : ByteArray := prog_9_method_4_code
def yX7_isTakenBack : MethodName := ⟨RX7, "isTakenBack", "(I)Z"⟩
abbrev cX7_add : ByteArray := prog_9_method_5_code
def yX7_add : MethodName := ⟨RX7, "add", "(IIIII)I"⟩
abbrev cX7_takeBack : ByteArray := prog_9_method_6_code
def yX7_takeBack : MethodName := ⟨RX7, "takeBack", "(II)V"⟩
abbrev cX7_isKnown : ByteArray := prog_9_method_7_code
def yX7_isKnown : MethodName := ⟨RX7, "isKnown", "(II)Z"⟩
abbrev cX7_hasServed : ByteArray := prog_9_method_8_code
def yX7_hasServed : MethodName := ⟨RX7, "hasServed", "(III)Z"⟩
abbrev cX7_firstServedDay : ByteArray := prog_9_method_9_code
def yX7_firstServedDay : MethodName := ⟨RX7, "firstServedDay", "(III)I"⟩
abbrev cX7_daysOf : ByteArray := prog_9_method_10_code
def yX7_daysOf : MethodName := ⟨RX7, "daysOf", "(IIII)I"⟩
abbrev cX7_pick : ByteArray := prog_9_method_11_code
def yX7_pick : MethodName := ⟨RX7, "pick", "(III)V"⟩
abbrev cX7_nextChange : ByteArray := prog_9_method_12_code
def yX7_nextChange : MethodName := ⟨RX7, "nextChange", "(II)I"⟩
abbrev cX7_isOfKind : ByteArray := prog_9_method_13_code
def yX7_isOfKind : MethodName := ⟨RX7, "isOfKind", "(II)Z"⟩
def RX8 : String := "GuildHouse$Weighing"
def TX8 : u_T := fun k => match k with
  | 0 => ("GuildHouse$Weighing", "values", "[I", true)
  | 1 => ("GuildHouse$Weighing", "any", "I", false)
  | 2 => ("GuildHouse$Weighing", "all", "I", false)
  | 3 => ("GuildHouse$Weighing", "left", "I", false)
  | 4 => ("GuildHouse$Weighing", "comparison", "C", false)
  | 5 => ("GuildHouse$Weighing", "right", "I", false)
  | _ => ("GuildHouse$Weighing", "hasNumber", "Z", false)
def tyX8 : Nat → FieldType := fun k => match k with
  | 0 => .array .int
  | 1 => .int
  | 2 => .int
  | 3 => .int
  | 4 => .char
  | 5 => .int
  | _ => .boolean
abbrev wsX80 : List Cond := u_ws RX8 TX8 7
theorem nmX8 : ∀ a, a < 7 → ∀ b, b < 7 → a ≠ b → (TX8 a).2.1 ≠ (TX8 b).2.1 := by decide +kernel
theorem tyX8_ok : ∀ k, k < 7 → parseFieldDescriptor (TX8 k).2.2.1 = some (tyX8 k) := by decide +kernel
abbrev cX8_init : ByteArray := prog_10_method_1_code
def yX8_init : MethodName := ⟨RX8, "<init>", "()V"⟩
abbrev cX8_begin : ByteArray := prog_10_method_2_code
def yX8_begin : MethodName := ⟨RX8, "begin", "()V"⟩
abbrev cX8_take : ByteArray := prog_10_method_3_code
def yX8_take : MethodName := ⟨RX8, "take", "(C)V"⟩
abbrev cX8_result : ByteArray := prog_10_method_4_code
def yX8_result : MethodName := ⟨RX8, "result", "()Z"⟩
abbrev cX8_takeJoint : ByteArray := prog_10_method_5_code
def yX8_takeJoint : MethodName := ⟨RX8, "takeJoint", "(C)V"⟩
abbrev cX8_settleNumber : ByteArray := prog_10_method_6_code
def yX8_settleNumber : MethodName := ⟨RX8, "settleNumber", "()V"⟩
abbrev cX8_compares : ByteArray := prog_10_method_7_code
def yX8_compares : MethodName := ⟨RX8, "compares", "()Z"⟩
abbrev cX8_countUnit : ByteArray := prog_10_method_8_code
def yX8_countUnit : MethodName := ⟨RX8, "countUnit", "(Z)V"⟩
abbrev cX8_holdsHere : ByteArray := prog_10_method_9_code
def yX8_holdsHere : MethodName := ⟨RX8, "holdsHere", "()Z"⟩
abbrev cX8_valueOfWord : ByteArray := prog_10_method_10_code
def yX8_valueOfWord : MethodName := ⟨RX8, "valueOfWord", "(C)I"⟩
def RX9 : String := "GuildHouse"
def TX9 : u_T := fun k => match k with
  | 0 => ("GuildHouse", "people", "LGuildHouse$People;", true)
  | 1 => ("GuildHouse", "terms", "LGuildHouse$Terms;", true)
  | 2 => ("GuildHouse", "gifts", "LGuildHouse$Gifts;", true)
  | 3 => ("GuildHouse", "draft", "LGuildHouse$Draft;", true)
  | 4 => ("GuildHouse", "reading", "LGuildHouse$Reading;", true)
  | 5 => ("GuildHouse", "statutes", "LGuildHouse$Statutes;", true)
  | 6 => ("GuildHouse", "weighing", "LGuildHouse$Weighing;", true)
  | 7 => ("GuildHouse", "numbers", "LGuildHouse$Edicts;", true)
  | 8 => ("GuildHouse", "numberTold", "[I", true)
  | 9 => ("GuildHouse", "pieces", "LGuildHouse$Pieces;", true)
  | 10 => ("GuildHouse", "bench", "[I", true)
  | _ => ("GuildHouse", "now", "I", false)
def tyX9 : Nat → FieldType := fun k => match k with
  | 0 => .object "GuildHouse$People"
  | 1 => .object "GuildHouse$Terms"
  | 2 => .object "GuildHouse$Gifts"
  | 3 => .object "GuildHouse$Draft"
  | 4 => .object "GuildHouse$Reading"
  | 5 => .object "GuildHouse$Statutes"
  | 6 => .object "GuildHouse$Weighing"
  | 7 => .object "GuildHouse$Edicts"
  | 8 => .array .int
  | 9 => .object "GuildHouse$Pieces"
  | 10 => .array .int
  | _ => .int
abbrev wsX90 : List Cond := u_ws RX9 TX9 12
theorem nmX9 : ∀ a, a < 12 → ∀ b, b < 12 → a ≠ b → (TX9 a).2.1 ≠ (TX9 b).2.1 := by decide +kernel
theorem tyX9_ok : ∀ k, k < 12 → parseFieldDescriptor (TX9 k).2.2.1 = some (tyX9 k) := by decide +kernel
abbrev cX9_init : ByteArray := prog_1_method_1_code
def yX9_init : MethodName := ⟨RX9, "<init>", "()V"⟩
abbrev cX9_person : ByteArray := prog_1_method_2_code
def yX9_person : MethodName := ⟨RX9, "person", "(II)I"⟩
abbrev cX9_master : ByteArray := prog_1_method_3_code
def yX9_master : MethodName := ⟨RX9, "master", "(I)Z"⟩
abbrev cX9_death : ByteArray := prog_1_method_4_code
def yX9_death : MethodName := ⟨RX9, "death", "(II)Z"⟩
abbrev cX9_days : ByteArray := prog_1_method_5_code
def yX9_days : MethodName := ⟨RX9, "days", "(I)I"⟩
abbrev cX9_term : ByteArray := prog_1_method_6_code
def yX9_term : MethodName := ⟨RX9, "term", "(IIII)I"⟩
abbrev cX9_back : ByteArray := prog_1_method_7_code
def yX9_back : MethodName := ⟨RX9, "back", "(I)Z"⟩
abbrev cX9_give : ByteArray := prog_1_method_8_code
def yX9_give : MethodName := ⟨RX9, "give", "(III)Z"⟩
abbrev cX9_feed : ByteArray := prog_1_method_9_code
def yX9_feed : MethodName := ⟨RX9, "feed", "(I)I"⟩
abbrev cX9_end : ByteArray := prog_1_method_10_code
def yX9_end : MethodName := ⟨RX9, "end", "(I)Z"⟩
abbrev cX9_fault : ByteArray := prog_1_method_11_code
def yX9_fault : MethodName := ⟨RX9, "fault", "()I"⟩
abbrev cX9_statute : ByteArray := prog_1_method_12_code
def yX9_statute : MethodName := ⟨RX9, "statute", "(I)I"⟩
abbrev cX9_force : ByteArray := prog_1_method_13_code
def yX9_force : MethodName := ⟨RX9, "force", "(II)I"⟩
abbrev cX9_value : ByteArray := prog_1_method_14_code
def yX9_value : MethodName := ⟨RX9, "value", "(IIII)I"⟩
abbrev cX9_may : ByteArray := prog_1_method_15_code
def yX9_may : MethodName := ⟨RX9, "may", "(III)I"⟩
abbrev cX9_piece : ByteArray := prog_1_method_16_code
def yX9_piece : MethodName := ⟨RX9, "piece", "(IJ)I"⟩
abbrev cX9_judge : ByteArray := prog_1_method_17_code
def yX9_judge : MethodName := ⟨RX9, "judge", "(II)I"⟩
abbrev cX9_mark : ByteArray := prog_1_method_18_code
def yX9_mark : MethodName := ⟨RX9, "mark", "(IIII)Z"⟩
abbrev cX9_told : ByteArray := prog_1_method_19_code
def yX9_told : MethodName := ⟨RX9, "told", "(II)I"⟩
abbrev cX9_hire : ByteArray := prog_1_method_20_code
def yX9_hire : MethodName := ⟨RX9, "hire", "(II)Z"⟩
abbrev cX9_leave : ByteArray := prog_1_method_21_code
def yX9_leave : MethodName := ⟨RX9, "leave", "(I)Z"⟩
abbrev cX9_number : ByteArray := prog_1_method_22_code
def yX9_number : MethodName := ⟨RX9, "number", "(II)Z"⟩
abbrev cX9_hands : ByteArray := prog_1_method_23_code
def yX9_hands : MethodName := ⟨RX9, "hands", "(I)I"⟩
abbrev cX9_lawful : ByteArray := prog_1_method_24_code
def yX9_lawful : MethodName := ⟨RX9, "lawful", "(I)I"⟩
abbrev cX9_kin : ByteArray := prog_1_method_25_code
def yX9_kin : MethodName := ⟨RX9, "kin", "(II)Z"⟩
abbrev cX9_look : ByteArray := prog_1_method_26_code
def yX9_look : MethodName := ⟨RX9, "look", "(II)I"⟩
abbrev cX9_count : ByteArray := prog_1_method_27_code
def yX9_count : MethodName := ⟨RX9, "count", "(I)I"⟩
abbrev cX9_isDay : ByteArray := prog_1_method_28_code
def yX9_isDay : MethodName := ⟨RX9, "isDay", "(I)Z"⟩
abbrev cX9_isAskable : ByteArray := prog_1_method_29_code
def yX9_isAskable : MethodName := ⟨RX9, "isAskable", "(II)Z"⟩
abbrev cX9_valueOf : ByteArray := prog_1_method_30_code
def yX9_valueOf : MethodName := ⟨RX9, "valueOf", "(IIII)I"⟩
abbrev cX9_mayCome : ByteArray := prog_1_method_31_code
def yX9_mayCome : MethodName := ⟨RX9, "mayCome", "(III)I"⟩
abbrev cX9_seatFitJudges : ByteArray := prog_1_method_32_code
def yX9_seatFitJudges : MethodName := ⟨RX9, "seatFitJudges", "(I)I"⟩
abbrev cX9_numberNow : ByteArray := prog_1_method_33_code
def yX9_numberNow : MethodName := ⟨RX9, "numberNow", "()I"⟩
def RX10 : String := "GuildHouseModel"
def TX10 : u_T := fun k => match k with
  | 0 => ("GuildHouseModel", "thrown", "I", false)
  | 1 => ("GuildHouseModel", "now", "I", false)
  | 2 => ("GuildHouseModel", "people", "I", false)
  | 3 => ("GuildHouseModel", "terms", "I", false)
  | 4 => ("GuildHouseModel", "gifts", "I", false)
  | 5 => ("GuildHouseModel", "statutes", "I", false)
  | 6 => ("GuildHouseModel", "pieces", "I", false)
  | 7 => ("GuildHouseModel", "numbers", "I", false)
  | 8 => ("GuildHouseModel", "length", "I", false)
  | 9 => ("GuildHouseModel", "parent", "[I", true)
  | 10 => ("GuildHouseModel", "other", "[I", true)
  | 11 => ("GuildHouseModel", "masterFrom", "[I", true)
  | 12 => ("GuildHouseModel", "deadFrom", "[I", true)
  | 13 => ("GuildHouseModel", "handOf", "[I", true)
  | 14 => ("GuildHouseModel", "graceTo", "[I", true)
  | 15 => ("GuildHouseModel", "termPerson", "[I", true)
  | 16 => ("GuildHouseModel", "termMaster", "[I", true)
  | 17 => ("GuildHouseModel", "termFrom", "[I", true)
  | 18 => ("GuildHouseModel", "termTo", "[I", true)
  | 19 => ("GuildHouseModel", "termTold", "[I", true)
  | 20 => ("GuildHouseModel", "termBack", "[I", true)
  | 21 => ("GuildHouseModel", "giftPerson", "[I", true)
  | 22 => ("GuildHouseModel", "giftLetters", "[I", true)
  | 23 => ("GuildHouseModel", "giftCoins", "[I", true)
  | 24 => ("GuildHouseModel", "giftDay", "[I", true)
  | 25 => ("GuildHouseModel", "text", "[B", true)
  | 26 => ("GuildHouseModel", "statuteText", "[B", true)
  | 27 => ("GuildHouseModel", "statuteLong", "[I", true)
  | 28 => ("GuildHouseModel", "statuteFrom", "[I", true)
  | 29 => ("GuildHouseModel", "statuteTold", "[I", true)
  | 30 => ("GuildHouseModel", "piecePerson", "[I", true)
  | 31 => ("GuildHouseModel", "pieceDay", "[I", true)
  | 32 => ("GuildHouseModel", "pieceMark", "[I", true)
  | 33 => ("GuildHouseModel", "pieceRefused", "[I", true)
  | 34 => ("GuildHouseModel", "pieceJudge", "[I", true)
  | 35 => ("GuildHouseModel", "points", "[I", true)
  | 36 => ("GuildHouseModel", "numberOf", "[I", true)
  | 37 => ("GuildHouseModel", "numberFrom", "[I", true)
  | 38 => ("GuildHouseModel", "numberTold", "[I", true)
  | 39 => ("GuildHouseModel", "masters", "[B", true)
  | 40 => ("GuildHouseModel", "firstMaster", "[I", true)
  | 41 => ("GuildHouseModel", "onRoad", "[Z", true)
  | 42 => ("GuildHouseModel", "value", "[I", true)
  | 43 => ("GuildHouseModel", "row", "[B", false)
  | 44 => ("GuildHouseModel", "rowFrom", "I", false)
  | 45 => ("GuildHouseModel", "rowLong", "I", false)
  | 46 => ("GuildHouseModel", "at", "I", false)
  | 47 => ("GuildHouseModel", "fault", "I", false)
  | _ => ("GuildHouseModel", "open", "I", false)
def tyX10 : Nat → FieldType := fun k => match k with
  | 0 => .int
  | 1 => .int
  | 2 => .int
  | 3 => .int
  | 4 => .int
  | 5 => .int
  | 6 => .int
  | 7 => .int
  | 8 => .int
  | 9 => .array .int
  | 10 => .array .int
  | 11 => .array .int
  | 12 => .array .int
  | 13 => .array .int
  | 14 => .array .int
  | 15 => .array .int
  | 16 => .array .int
  | 17 => .array .int
  | 18 => .array .int
  | 19 => .array .int
  | 20 => .array .int
  | 21 => .array .int
  | 22 => .array .int
  | 23 => .array .int
  | 24 => .array .int
  | 25 => .array .byte
  | 26 => .array .byte
  | 27 => .array .int
  | 28 => .array .int
  | 29 => .array .int
  | 30 => .array .int
  | 31 => .array .int
  | 32 => .array .int
  | 33 => .array .int
  | 34 => .array .int
  | 35 => .array .int
  | 36 => .array .int
  | 37 => .array .int
  | 38 => .array .int
  | 39 => .array .byte
  | 40 => .array .int
  | 41 => .array .boolean
  | 42 => .array .int
  | 43 => .array .byte
  | 44 => .int
  | 45 => .int
  | 46 => .int
  | 47 => .int
  | _ => .int
abbrev wsX100 : List Cond := u_ws RX10 TX10 49
theorem nmX10 : ∀ a, a < 49 → ∀ b, b < 49 → a ≠ b → (TX10 a).2.1 ≠ (TX10 b).2.1 := by decide +kernel
theorem tyX10_ok : ∀ k, k < 49 → parseFieldDescriptor (TX10 k).2.2.1 = some (tyX10 k) := by decide +kernel
abbrev cX10_init : ByteArray := prog_12_method_1_code
def yX10_init : MethodName := ⟨RX10, "<init>", "()V"⟩
abbrev cX10_thrown : ByteArray := prog_12_method_2_code
def yX10_thrown : MethodName := ⟨RX10, "thrown", "()I"⟩
abbrev cX10_isIn : ByteArray := prog_12_method_3_code
def yX10_isIn : MethodName := ⟨RX10, "isIn", "(III)Z"⟩
abbrev cX10_isPerson : ByteArray := prog_12_method_4_code
def yX10_isPerson : MethodName := ⟨RX10, "isPerson", "(I)Z"⟩
abbrev cX10_isAlive : ByteArray := prog_12_method_5_code
def yX10_isAlive : MethodName := ⟨RX10, "isAlive", "(I)Z"⟩
abbrev cX10_isMaster : ByteArray := prog_12_method_6_code
def yX10_isMaster : MethodName := ⟨RX10, "isMaster", "(I)Z"⟩
abbrev cX10_person : ByteArray := prog_12_method_7_code
def yX10_person : MethodName := ⟨RX10, "person", "(II)I"⟩
abbrev cX10_master : ByteArray := prog_12_method_8_code
def yX10_master : MethodName := ⟨RX10, "master", "(I)Z"⟩
abbrev cX10_death : ByteArray := prog_12_method_9_code
def yX10_death : MethodName := ⟨RX10, "death", "(II)Z"⟩
abbrev cX10_days : ByteArray := prog_12_method_10_code
def yX10_days : MethodName := ⟨RX10, "days", "(I)I"⟩
abbrev cX10_isParent : ByteArray := prog_12_method_11_code
def yX10_isParent : MethodName := ⟨RX10, "isParent", "(II)Z"⟩
abbrev cX10_areKin : ByteArray := prog_12_method_12_code
def yX10_areKin : MethodName := ⟨RX10, "areKin", "(II)Z"⟩
abbrev cX10_kin : ByteArray := prog_12_method_13_code
def yX10_kin : MethodName := ⟨RX10, "kin", "(II)Z"⟩
abbrev cX10_term : ByteArray := prog_12_method_14_code
def yX10_term : MethodName := ⟨RX10, "term", "(IIII)I"⟩
abbrev cX10_back : ByteArray := prog_12_method_15_code
def yX10_back : MethodName := ⟨RX10, "back", "(I)Z"⟩
abbrev cX10_isKnown : ByteArray := prog_12_method_16_code
def yX10_isKnown : MethodName := ⟨RX10, "isKnown", "(II)Z"⟩
abbrev cX10_give : ByteArray := prog_12_method_17_code
def yX10_give : MethodName := ⟨RX10, "give", "(III)Z"⟩
abbrev cX10_mark : ByteArray := prog_12_method_18_code
def yX10_mark : MethodName := ⟨RX10, "mark", "(III)V"⟩
abbrev cX10_values : ByteArray := prog_12_method_19_code
def yX10_values : MethodName := ⟨RX10, "values", "(III)V"⟩
abbrev cX10_wasMaster : ByteArray := prog_12_method_20_code
def yX10_wasMaster : MethodName := ⟨RX10, "wasMaster", "(III)Z"⟩
abbrev cX10_isAsked : ByteArray := prog_12_method_21_code
def yX10_isAsked : MethodName := ⟨RX10, "isAsked", "(III)Z"⟩
abbrev cX10_value : ByteArray := prog_12_method_22_code
def yX10_value : MethodName := ⟨RX10, "value", "(IIII)I"⟩
abbrev cX10_look : ByteArray := prog_12_method_23_code
def yX10_look : MethodName := ⟨RX10, "look", "()I"⟩
abbrev cX10_wrong : ByteArray := prog_12_method_24_code
def yX10_wrong : MethodName := ⟨RX10, "wrong", "()V"⟩
abbrev cX10_unit : ByteArray := prog_12_method_25_code
def yX10_unit : MethodName := ⟨RX10, "unit", "()Z"⟩
abbrev cX10_part : ByteArray := prog_12_method_26_code
def yX10_part : MethodName := ⟨RX10, "part", "()Z"⟩
abbrev cX10_tests : ByteArray := prog_12_method_27_code
def yX10_tests : MethodName := ⟨RX10, "tests", "()Z"⟩
abbrev cX10_holds : ByteArray := prog_12_method_28_code
def yX10_holds : MethodName := ⟨RX10, "holds", "([BII)Z"⟩
abbrev cX10_feed : ByteArray := prog_12_method_29_code
def yX10_feed : MethodName := ⟨RX10, "feed", "(I)I"⟩
abbrev cX10_end : ByteArray := prog_12_method_30_code
def yX10_end : MethodName := ⟨RX10, "end", "(I)Z"⟩
abbrev cX10_fault : ByteArray := prog_12_method_31_code
def yX10_fault : MethodName := ⟨RX10, "fault", "()I"⟩
abbrev cX10_statute : ByteArray := prog_12_method_32_code
def yX10_statute : MethodName := ⟨RX10, "statute", "(I)I"⟩
abbrev cX10_inForce : ByteArray := prog_12_method_33_code
def yX10_inForce : MethodName := ⟨RX10, "inForce", "(II)I"⟩
abbrev cX10_force : ByteArray := prog_12_method_34_code
def yX10_force : MethodName := ⟨RX10, "force", "(II)I"⟩
abbrev cX10_lets : ByteArray := prog_12_method_35_code
def yX10_lets : MethodName := ⟨RX10, "lets", "(I)Z"⟩
abbrev cX10_mayCome : ByteArray := prog_12_method_36_code
def yX10_mayCome : MethodName := ⟨RX10, "mayCome", "(III)I"⟩
abbrev cX10_may : ByteArray := prog_12_method_37_code
def yX10_may : MethodName := ⟨RX10, "may", "(III)I"⟩
abbrev cX10_mayJudge : ByteArray := prog_12_method_38_code
def yX10_mayJudge : MethodName := ⟨RX10, "mayJudge", "(II)Z"⟩
abbrev cX10_piece : ByteArray := prog_12_method_39_code
def yX10_piece : MethodName := ⟨RX10, "piece", "(IJ)I"⟩
abbrev cX10_isPiece : ByteArray := prog_12_method_40_code
def yX10_isPiece : MethodName := ⟨RX10, "isPiece", "(I)Z"⟩
abbrev cX10_judge : ByteArray := prog_12_method_41_code
def yX10_judge : MethodName := ⟨RX10, "judge", "(II)I"⟩
abbrev cX10_mark_ : ByteArray := prog_12_method_42_code
def yX10_mark_ : MethodName := ⟨RX10, "mark", "(IIII)Z"⟩
abbrev cX10_told : ByteArray := prog_12_method_43_code
def yX10_told : MethodName := ⟨RX10, "told", "(II)I"⟩
abbrev cX10_hire : ByteArray := prog_12_method_44_code
def yX10_hire : MethodName := ⟨RX10, "hire", "(II)Z"⟩
abbrev cX10_leave : ByteArray := prog_12_method_45_code
def yX10_leave : MethodName := ⟨RX10, "leave", "(I)Z"⟩
abbrev cX10_number : ByteArray := prog_12_method_46_code
def yX10_number : MethodName := ⟨RX10, "number", "(II)Z"⟩
abbrev cX10_handsOf : ByteArray := prog_12_method_47_code
def yX10_handsOf : MethodName := ⟨RX10, "handsOf", "(I)I"⟩
abbrev cX10_hands : ByteArray := prog_12_method_48_code
def yX10_hands : MethodName := ⟨RX10, "hands", "(I)I"⟩
abbrev cX10_lawful : ByteArray := prog_12_method_49_code
def yX10_lawful : MethodName := ⟨RX10, "lawful", "(I)I"⟩
abbrev cX10_look_ : ByteArray := prog_12_method_50_code
def yX10_look_ : MethodName := ⟨RX10, "look", "(II)I"⟩
abbrev cX10_count : ByteArray := prog_12_method_51_code
def yX10_count : MethodName := ⟨RX10, "count", "(I)I"⟩
def RJ9 : String := "java/lang/Math"
def TJ9 : u_T := fun k => match k with
  | _ => ("", "", "", false)
def tyJ9 : Nat → FieldType := fun k => match k with
  | _ => .int
abbrev cJ9_min_7cf53 : ByteArray := prog_14_method_69_code
def yJ9_min_7cf53 : MethodName := ⟨RJ9, "min", "(II)I"⟩
def RJ0 : String := "java/lang/String"
def TJ0 : u_T := fun k => match k with
  | _ => ("", "", "", false)
def tyJ0 : Nat → FieldType := fun k => match k with
  | _ => .int
def RJ10 : String := "java/lang/System"
def TJ10 : u_T := fun k => match k with
  | _ => ("", "", "", false)
def tyJ10 : Nat → FieldType := fun k => match k with
  | _ => .int
def RL : String := "GuildHouseLaw"
abbrev cL_look : ByteArray := method_3_code
def yL_look : MethodName := ⟨RL, "look", "(LGuildHouse;II[J)I"⟩
abbrev cL_law : ByteArray := code
def yL_law : MethodName := ⟨RL, "law", "([I)Z"⟩
end
section
theorem dX0_init_0 : decode cX0_init 0 = .ok (.aload_n 0, 1) := by decide +kernel
theorem dX0_init_1 : decode cX0_init 1 = .ok (.invokespecial 3, 3) := by decide +kernel
theorem dX0_init_4 : decode cX0_init 4 = .ok (.aload_n 0, 1) := by decide +kernel
theorem dX0_init_5 : decode cX0_init 5 = .ok (.bipush 120, 2) := by decide +kernel
theorem dX0_init_7 : decode cX0_init 7 = .ok (.newarray .char, 2) := by decide +kernel
theorem dX0_init_9 : decode cX0_init 9 = .ok (.putfield 9, 3) := by decide +kernel
theorem dX0_init_12 : decode cX0_init 12 = .ok (.aload_n 0, 1) := by decide +kernel
theorem dX0_init_13 : decode cX0_init 13 = .ok (.iconst 0, 1) := by decide +kernel
theorem dX0_init_14 : decode cX0_init 14 = .ok (.putfield 15, 3) := by decide +kernel
theorem dX0_init_17 : decode cX0_init 17 = .ok (.return_, 1) := by decide +kernel
theorem dX0_hasRoomFor_0 : decode cX0_hasRoomFor 0 = .ok (.iconst 0, 1) := by decide +kernel
theorem dX0_hasRoomFor_1 : decode cX0_hasRoomFor 1 = .ok (.istore_n 2, 1) := by decide +kernel
theorem dX0_hasRoomFor_2 : decode cX0_hasRoomFor 2 = .ok (.bipush 24, 2) := by decide +kernel
theorem dX0_hasRoomFor_4 : decode cX0_hasRoomFor 4 = .ok (.istore_n 3, 1) := by decide +kernel
theorem dX0_hasRoomFor_5 : decode cX0_hasRoomFor 5 = .ok (.iload_n 3, 1) := by decide +kernel
theorem dX0_hasRoomFor_6 : decode cX0_hasRoomFor 6 = .ok (.ifCond .lt 20, 3) := by decide +kernel
theorem dX0_hasRoomFor_9 : decode cX0_hasRoomFor 9 = .ok (.iload_n 1, 1) := by decide +kernel
theorem dX0_hasRoomFor_10 : decode cX0_hasRoomFor 10 = .ok (.iload_n 3, 1) := by decide +kernel
theorem dX0_hasRoomFor_11 : decode cX0_hasRoomFor 11 = .ok (.invokestatic 19, 3) := by decide +kernel
theorem dX0_hasRoomFor_14 : decode cX0_hasRoomFor 14 = .ok (.ifCond .eq 6, 3) := by decide +kernel
theorem dX0_hasRoomFor_17 : decode cX0_hasRoomFor 17 = .ok (.iinc 2 1, 3) := by decide +kernel
theorem dX0_hasRoomFor_20 : decode cX0_hasRoomFor 20 = .ok (.iinc 3 (-8), 3) := by decide +kernel
theorem dX0_hasRoomFor_23 : decode cX0_hasRoomFor 23 = .ok (.goto (-18), 3) := by decide +kernel
theorem dX0_hasRoomFor_26 : decode cX0_hasRoomFor 26 = .ok (.aload_n 0, 1) := by decide +kernel
theorem dX0_hasRoomFor_27 : decode cX0_hasRoomFor 27 = .ok (.getfield 15, 3) := by decide +kernel
theorem dX0_hasRoomFor_30 : decode cX0_hasRoomFor 30 = .ok (.iload_n 2, 1) := by decide +kernel
theorem dX0_hasRoomFor_31 : decode cX0_hasRoomFor 31 = .ok (.iadd, 1) := by decide +kernel
theorem dX0_hasRoomFor_32 : decode cX0_hasRoomFor 32 = .ok (.bipush 120, 2) := by decide +kernel
theorem dX0_hasRoomFor_34 : decode cX0_hasRoomFor 34 = .ok (.if_icmp .gt 7, 3) := by decide +kernel
theorem dX0_hasRoomFor_37 : decode cX0_hasRoomFor 37 = .ok (.iconst 1, 1) := by decide +kernel
theorem dX0_hasRoomFor_38 : decode cX0_hasRoomFor 38 = .ok (.goto 4, 3) := by decide +kernel
theorem dX0_hasRoomFor_41 : decode cX0_hasRoomFor 41 = .ok (.iconst 0, 1) := by decide +kernel
theorem dX0_hasRoomFor_42 : decode cX0_hasRoomFor 42 = .ok (.ireturn, 1) := by decide +kernel
theorem dX0_add_0 : decode cX0_add 0 = .ok (.bipush 24, 2) := by decide +kernel
theorem dX0_add_2 : decode cX0_add 2 = .ok (.istore_n 2, 1) := by decide +kernel
theorem dX0_add_3 : decode cX0_add 3 = .ok (.iload_n 2, 1) := by decide +kernel
theorem dX0_add_4 : decode cX0_add 4 = .ok (.ifCond .lt 49, 3) := by decide +kernel
theorem dX0_add_7 : decode cX0_add 7 = .ok (.iload_n 1, 1) := by decide +kernel
theorem dX0_add_8 : decode cX0_add 8 = .ok (.iload_n 2, 1) := by decide +kernel
theorem dX0_add_9 : decode cX0_add 9 = .ok (.invokestatic 19, 3) := by decide +kernel
theorem dX0_add_12 : decode cX0_add 12 = .ok (.istore_n 3, 1) := by decide +kernel
theorem dX0_add_13 : decode cX0_add 13 = .ok (.iload_n 3, 1) := by decide +kernel
theorem dX0_add_14 : decode cX0_add 14 = .ok (.ifCond .eq 33, 3) := by decide +kernel
theorem dX0_add_17 : decode cX0_add 17 = .ok (.aload_n 0, 1) := by decide +kernel
theorem dX0_add_18 : decode cX0_add 18 = .ok (.getfield 15, 3) := by decide +kernel
theorem dX0_add_21 : decode cX0_add 21 = .ok (.bipush 120, 2) := by decide +kernel
theorem dX0_add_23 : decode cX0_add 23 = .ok (.if_icmp .ge 24, 3) := by decide +kernel
theorem dX0_add_26 : decode cX0_add 26 = .ok (.aload_n 0, 1) := by decide +kernel
theorem dX0_add_27 : decode cX0_add 27 = .ok (.getfield 9, 3) := by decide +kernel
theorem dX0_add_30 : decode cX0_add 30 = .ok (.aload_n 0, 1) := by decide +kernel
theorem dX0_add_31 : decode cX0_add 31 = .ok (.getfield 15, 3) := by decide +kernel
theorem dX0_add_34 : decode cX0_add 34 = .ok (.iload_n 3, 1) := by decide +kernel
theorem dX0_add_35 : decode cX0_add 35 = .ok (.i2c, 1) := by decide +kernel
theorem dX0_add_36 : decode cX0_add 36 = .ok (.castore, 1) := by decide +kernel
theorem dX0_add_37 : decode cX0_add 37 = .ok (.aload_n 0, 1) := by decide +kernel
theorem dX0_add_38 : decode cX0_add 38 = .ok (.dup, 1) := by decide +kernel
theorem dX0_add_39 : decode cX0_add 39 = .ok (.getfield 15, 3) := by decide +kernel
theorem dX0_add_42 : decode cX0_add 42 = .ok (.iconst 1, 1) := by decide +kernel
theorem dX0_add_43 : decode cX0_add 43 = .ok (.iadd, 1) := by decide +kernel
theorem dX0_add_44 : decode cX0_add 44 = .ok (.putfield 15, 3) := by decide +kernel
theorem dX0_add_47 : decode cX0_add 47 = .ok (.iinc 2 (-8), 3) := by decide +kernel
theorem dX0_add_50 : decode cX0_add 50 = .ok (.goto (-47), 3) := by decide +kernel
theorem dX0_add_53 : decode cX0_add 53 = .ok (.return_, 1) := by decide +kernel
theorem dX0_byteOf_0 : decode cX0_byteOf 0 = .ok (.iload_n 0, 1) := by decide +kernel
theorem dX0_byteOf_1 : decode cX0_byteOf 1 = .ok (.iload_n 1, 1) := by decide +kernel
theorem dX0_byteOf_2 : decode cX0_byteOf 2 = .ok (.iushr, 1) := by decide +kernel
theorem dX0_byteOf_3 : decode cX0_byteOf 3 = .ok (.sipush 255, 3) := by decide +kernel
theorem dX0_byteOf_6 : decode cX0_byteOf 6 = .ok (.iand, 1) := by decide +kernel
theorem dX0_byteOf_7 : decode cX0_byteOf 7 = .ok (.ireturn, 1) := by decide +kernel
theorem dX1_init_0 : decode cX1_init 0 = .ok (.aload_n 0, 1) := by decide +kernel
theorem dX1_init_1 : decode cX1_init 1 = .ok (.invokespecial 3, 3) := by decide +kernel
theorem dX1_init_4 : decode cX1_init 4 = .ok (.aload_n 0, 1) := by decide +kernel
theorem dX1_init_5 : decode cX1_init 5 = .ok (.bipush 30, 2) := by decide +kernel
theorem dX1_init_7 : decode cX1_init 7 = .ok (.newarray .int, 2) := by decide +kernel
theorem dX1_init_9 : decode cX1_init 9 = .ok (.putfield 9, 3) := by decide +kernel
theorem dX1_init_12 : decode cX1_init 12 = .ok (.aload_n 0, 1) := by decide +kernel
theorem dX1_init_13 : decode cX1_init 13 = .ok (.bipush 30, 2) := by decide +kernel
theorem dX1_init_15 : decode cX1_init 15 = .ok (.newarray .int, 2) := by decide +kernel
theorem dX1_init_17 : decode cX1_init 17 = .ok (.putfield 15, 3) := by decide +kernel
theorem dX1_init_20 : decode cX1_init 20 = .ok (.aload_n 0, 1) := by decide +kernel
theorem dX1_init_21 : decode cX1_init 21 = .ok (.iconst 0, 1) := by decide +kernel
theorem dX1_init_22 : decode cX1_init 22 = .ok (.putfield 18, 3) := by decide +kernel
theorem dX1_init_25 : decode cX1_init 25 = .ok (.return_, 1) := by decide +kernel
theorem dX1_isFull_0 : decode cX1_isFull 0 = .ok (.aload_n 0, 1) := by decide +kernel
theorem dX1_isFull_1 : decode cX1_isFull 1 = .ok (.getfield 18, 3) := by decide +kernel
theorem dX1_isFull_4 : decode cX1_isFull 4 = .ok (.bipush 30, 2) := by decide +kernel
theorem dX1_isFull_6 : decode cX1_isFull 6 = .ok (.if_icmp .lt 7, 3) := by decide +kernel
theorem dX1_isFull_9 : decode cX1_isFull 9 = .ok (.iconst 1, 1) := by decide +kernel
theorem dX1_isFull_10 : decode cX1_isFull 10 = .ok (.goto 4, 3) := by decide +kernel
theorem dX1_isFull_13 : decode cX1_isFull 13 = .ok (.iconst 0, 1) := by decide +kernel
theorem dX1_isFull_14 : decode cX1_isFull 14 = .ok (.ireturn, 1) := by decide +kernel
theorem dX1_add_0 : decode cX1_add 0 = .ok (.aload_n 0, 1) := by decide +kernel
theorem dX1_add_1 : decode cX1_add 1 = .ok (.getfield 18, 3) := by decide +kernel
theorem dX1_add_4 : decode cX1_add 4 = .ok (.istore_n 3, 1) := by decide +kernel
theorem dX1_add_5 : decode cX1_add 5 = .ok (.aload_n 0, 1) := by decide +kernel
theorem dX1_add_6 : decode cX1_add 6 = .ok (.getfield 9, 3) := by decide +kernel
theorem dX1_add_9 : decode cX1_add 9 = .ok (.iload_n 3, 1) := by decide +kernel
theorem dX1_add_10 : decode cX1_add 10 = .ok (.iload_n 1, 1) := by decide +kernel
theorem dX1_add_11 : decode cX1_add 11 = .ok (.iastore, 1) := by decide +kernel
theorem dX1_add_12 : decode cX1_add 12 = .ok (.aload_n 0, 1) := by decide +kernel
theorem dX1_add_13 : decode cX1_add 13 = .ok (.getfield 15, 3) := by decide +kernel
theorem dX1_add_16 : decode cX1_add 16 = .ok (.iload_n 3, 1) := by decide +kernel
theorem dX1_add_17 : decode cX1_add 17 = .ok (.iload_n 2, 1) := by decide +kernel
theorem dX1_add_18 : decode cX1_add 18 = .ok (.iastore, 1) := by decide +kernel
theorem dX1_add_19 : decode cX1_add 19 = .ok (.aload_n 0, 1) := by decide +kernel
theorem dX1_add_20 : decode cX1_add 20 = .ok (.dup, 1) := by decide +kernel
theorem dX1_add_21 : decode cX1_add 21 = .ok (.getfield 18, 3) := by decide +kernel
theorem dX1_add_24 : decode cX1_add 24 = .ok (.iconst 1, 1) := by decide +kernel
theorem dX1_add_25 : decode cX1_add 25 = .ok (.iadd, 1) := by decide +kernel
theorem dX1_add_26 : decode cX1_add 26 = .ok (.putfield 18, 3) := by decide +kernel
theorem dX1_add_29 : decode cX1_add 29 = .ok (.iload_n 3, 1) := by decide +kernel
theorem dX1_add_30 : decode cX1_add 30 = .ok (.ireturn, 1) := by decide +kernel
theorem dX1_inForce_0 : decode cX1_inForce 0 = .ok (.iconst (-1), 1) := by decide +kernel
theorem dX1_inForce_1 : decode cX1_inForce 1 = .ok (.istore_n 3, 1) := by decide +kernel
theorem dX1_inForce_2 : decode cX1_inForce 2 = .ok (.iconst 0, 1) := by decide +kernel
theorem dX1_inForce_3 : decode cX1_inForce 3 = .ok (.istore 4, 2) := by decide +kernel
theorem dX1_inForce_5 : decode cX1_inForce 5 = .ok (.iload 4, 2) := by decide +kernel
theorem dX1_inForce_7 : decode cX1_inForce 7 = .ok (.aload_n 0, 1) := by decide +kernel
theorem dX1_inForce_8 : decode cX1_inForce 8 = .ok (.getfield 18, 3) := by decide +kernel
theorem dX1_inForce_11 : decode cX1_inForce 11 = .ok (.if_icmp .ge 67, 3) := by decide +kernel
theorem dX1_inForce_14 : decode cX1_inForce 14 = .ok (.aload_n 0, 1) := by decide +kernel
theorem dX1_inForce_15 : decode cX1_inForce 15 = .ok (.getfield 15, 3) := by decide +kernel
theorem dX1_inForce_18 : decode cX1_inForce 18 = .ok (.iload 4, 2) := by decide +kernel
theorem dX1_inForce_20 : decode cX1_inForce 20 = .ok (.iaload, 1) := by decide +kernel
theorem dX1_inForce_21 : decode cX1_inForce 21 = .ok (.iload_n 2, 1) := by decide +kernel
theorem dX1_inForce_22 : decode cX1_inForce 22 = .ok (.if_icmp .gt 18, 3) := by decide +kernel
theorem dX1_inForce_25 : decode cX1_inForce 25 = .ok (.aload_n 0, 1) := by decide +kernel
theorem dX1_inForce_26 : decode cX1_inForce 26 = .ok (.getfield 9, 3) := by decide +kernel
theorem dX1_inForce_29 : decode cX1_inForce 29 = .ok (.iload 4, 2) := by decide +kernel
theorem dX1_inForce_31 : decode cX1_inForce 31 = .ok (.iaload, 1) := by decide +kernel
theorem dX1_inForce_32 : decode cX1_inForce 32 = .ok (.iload_n 1, 1) := by decide +kernel
theorem dX1_inForce_33 : decode cX1_inForce 33 = .ok (.if_icmp .gt 7, 3) := by decide +kernel
theorem dX1_inForce_36 : decode cX1_inForce 36 = .ok (.iconst 1, 1) := by decide +kernel
theorem dX1_inForce_37 : decode cX1_inForce 37 = .ok (.goto 4, 3) := by decide +kernel
theorem dX1_inForce_40 : decode cX1_inForce 40 = .ok (.iconst 0, 1) := by decide +kernel
theorem dX1_inForce_41 : decode cX1_inForce 41 = .ok (.istore 5, 2) := by decide +kernel
theorem dX1_inForce_43 : decode cX1_inForce 43 = .ok (.iload 5, 2) := by decide +kernel
theorem dX1_inForce_45 : decode cX1_inForce 45 = .ok (.ifCond .eq 27, 3) := by decide +kernel
theorem dX1_inForce_48 : decode cX1_inForce 48 = .ok (.iload_n 3, 1) := by decide +kernel
theorem dX1_inForce_49 : decode cX1_inForce 49 = .ok (.iconst (-1), 1) := by decide +kernel
theorem dX1_inForce_50 : decode cX1_inForce 50 = .ok (.if_icmp .eq 19, 3) := by decide +kernel
theorem dX1_inForce_53 : decode cX1_inForce 53 = .ok (.aload_n 0, 1) := by decide +kernel
theorem dX1_inForce_54 : decode cX1_inForce 54 = .ok (.getfield 9, 3) := by decide +kernel
theorem dX1_inForce_57 : decode cX1_inForce 57 = .ok (.iload 4, 2) := by decide +kernel
theorem dX1_inForce_59 : decode cX1_inForce 59 = .ok (.iaload, 1) := by decide +kernel
theorem dX1_inForce_60 : decode cX1_inForce 60 = .ok (.aload_n 0, 1) := by decide +kernel
theorem dX1_inForce_61 : decode cX1_inForce 61 = .ok (.getfield 9, 3) := by decide +kernel
theorem dX1_inForce_64 : decode cX1_inForce 64 = .ok (.iload_n 3, 1) := by decide +kernel
theorem dX1_inForce_65 : decode cX1_inForce 65 = .ok (.iaload, 1) := by decide +kernel
theorem dX1_inForce_66 : decode cX1_inForce 66 = .ok (.if_icmp .lt 6, 3) := by decide +kernel
theorem dX1_inForce_69 : decode cX1_inForce 69 = .ok (.iload 4, 2) := by decide +kernel
theorem dX1_inForce_71 : decode cX1_inForce 71 = .ok (.istore_n 3, 1) := by decide +kernel
theorem dX1_inForce_72 : decode cX1_inForce 72 = .ok (.iinc 4 1, 3) := by decide +kernel
theorem dX1_inForce_75 : decode cX1_inForce 75 = .ok (.goto (-70), 3) := by decide +kernel
theorem dX1_inForce_78 : decode cX1_inForce 78 = .ok (.iload_n 3, 1) := by decide +kernel
theorem dX1_inForce_79 : decode cX1_inForce 79 = .ok (.ireturn, 1) := by decide +kernel
theorem dX2_init_0 : decode cX2_init 0 = .ok (.aload_n 0, 1) := by decide +kernel
theorem dX2_init_1 : decode cX2_init 1 = .ok (.invokespecial 3, 3) := by decide +kernel
theorem dX2_init_4 : decode cX2_init 4 = .ok (.aload_n 0, 1) := by decide +kernel
theorem dX2_init_5 : decode cX2_init 5 = .ok (.bipush 100, 2) := by decide +kernel
theorem dX2_init_7 : decode cX2_init 7 = .ok (.newarray .int, 2) := by decide +kernel
theorem dX2_init_9 : decode cX2_init 9 = .ok (.putfield 9, 3) := by decide +kernel
theorem dX2_init_12 : decode cX2_init 12 = .ok (.aload_n 0, 1) := by decide +kernel
theorem dX2_init_13 : decode cX2_init 13 = .ok (.bipush 100, 2) := by decide +kernel
theorem dX2_init_15 : decode cX2_init 15 = .ok (.newarray .int, 2) := by decide +kernel
theorem dX2_init_17 : decode cX2_init 17 = .ok (.putfield 15, 3) := by decide +kernel
theorem dX2_init_20 : decode cX2_init 20 = .ok (.aload_n 0, 1) := by decide +kernel
theorem dX2_init_21 : decode cX2_init 21 = .ok (.bipush 100, 2) := by decide +kernel
theorem dX2_init_23 : decode cX2_init 23 = .ok (.newarray .int, 2) := by decide +kernel
theorem dX2_init_25 : decode cX2_init 25 = .ok (.putfield 18, 3) := by decide +kernel
theorem dX2_init_28 : decode cX2_init 28 = .ok (.aload_n 0, 1) := by decide +kernel
theorem dX2_init_29 : decode cX2_init 29 = .ok (.bipush 100, 2) := by decide +kernel
theorem dX2_init_31 : decode cX2_init 31 = .ok (.newarray .int, 2) := by decide +kernel
theorem dX2_init_33 : decode cX2_init 33 = .ok (.putfield 21, 3) := by decide +kernel
theorem dX2_init_36 : decode cX2_init 36 = .ok (.aload_n 0, 1) := by decide +kernel
theorem dX2_init_37 : decode cX2_init 37 = .ok (.iconst 0, 1) := by decide +kernel
theorem dX2_init_38 : decode cX2_init 38 = .ok (.putfield 24, 3) := by decide +kernel
theorem dX2_init_41 : decode cX2_init 41 = .ok (.return_, 1) := by decide +kernel
theorem dX2_isFull_0 : decode cX2_isFull 0 = .ok (.aload_n 0, 1) := by decide +kernel
theorem dX2_isFull_1 : decode cX2_isFull 1 = .ok (.getfield 24, 3) := by decide +kernel
theorem dX2_isFull_4 : decode cX2_isFull 4 = .ok (.bipush 100, 2) := by decide +kernel
theorem dX2_isFull_6 : decode cX2_isFull 6 = .ok (.if_icmp .lt 7, 3) := by decide +kernel
theorem dX2_isFull_9 : decode cX2_isFull 9 = .ok (.iconst 1, 1) := by decide +kernel
theorem dX2_isFull_10 : decode cX2_isFull 10 = .ok (.goto 4, 3) := by decide +kernel
theorem dX2_isFull_13 : decode cX2_isFull 13 = .ok (.iconst 0, 1) := by decide +kernel
theorem dX2_isFull_14 : decode cX2_isFull 14 = .ok (.ireturn, 1) := by decide +kernel
theorem dX2_add_0 : decode cX2_add 0 = .ok (.aload_n 0, 1) := by decide +kernel
theorem dX2_add_1 : decode cX2_add 1 = .ok (.getfield 9, 3) := by decide +kernel
theorem dX2_add_4 : decode cX2_add 4 = .ok (.aload_n 0, 1) := by decide +kernel
theorem dX2_add_5 : decode cX2_add 5 = .ok (.getfield 24, 3) := by decide +kernel
theorem dX2_add_8 : decode cX2_add 8 = .ok (.iload_n 1, 1) := by decide +kernel
theorem dX2_add_9 : decode cX2_add 9 = .ok (.iastore, 1) := by decide +kernel
theorem dX2_add_10 : decode cX2_add 10 = .ok (.aload_n 0, 1) := by decide +kernel
theorem dX2_add_11 : decode cX2_add 11 = .ok (.getfield 15, 3) := by decide +kernel
theorem dX2_add_14 : decode cX2_add 14 = .ok (.aload_n 0, 1) := by decide +kernel
theorem dX2_add_15 : decode cX2_add 15 = .ok (.getfield 24, 3) := by decide +kernel
theorem dX2_add_18 : decode cX2_add 18 = .ok (.iload_n 2, 1) := by decide +kernel
theorem dX2_add_19 : decode cX2_add 19 = .ok (.iastore, 1) := by decide +kernel
theorem dX2_add_20 : decode cX2_add 20 = .ok (.aload_n 0, 1) := by decide +kernel
theorem dX2_add_21 : decode cX2_add 21 = .ok (.getfield 18, 3) := by decide +kernel
theorem dX2_add_24 : decode cX2_add 24 = .ok (.aload_n 0, 1) := by decide +kernel
theorem dX2_add_25 : decode cX2_add 25 = .ok (.getfield 24, 3) := by decide +kernel
theorem dX2_add_28 : decode cX2_add 28 = .ok (.iload_n 3, 1) := by decide +kernel
theorem dX2_add_29 : decode cX2_add 29 = .ok (.iastore, 1) := by decide +kernel
theorem dX2_add_30 : decode cX2_add 30 = .ok (.aload_n 0, 1) := by decide +kernel
theorem dX2_add_31 : decode cX2_add 31 = .ok (.getfield 21, 3) := by decide +kernel
theorem dX2_add_34 : decode cX2_add 34 = .ok (.aload_n 0, 1) := by decide +kernel
theorem dX2_add_35 : decode cX2_add 35 = .ok (.getfield 24, 3) := by decide +kernel
theorem dX2_add_38 : decode cX2_add 38 = .ok (.iload 4, 2) := by decide +kernel
theorem dX2_add_40 : decode cX2_add 40 = .ok (.iastore, 1) := by decide +kernel
theorem dX2_add_41 : decode cX2_add 41 = .ok (.aload_n 0, 1) := by decide +kernel
theorem dX2_add_42 : decode cX2_add 42 = .ok (.dup, 1) := by decide +kernel
theorem dX2_add_43 : decode cX2_add 43 = .ok (.getfield 24, 3) := by decide +kernel
theorem dX2_add_46 : decode cX2_add 46 = .ok (.iconst 1, 1) := by decide +kernel
theorem dX2_add_47 : decode cX2_add 47 = .ok (.iadd, 1) := by decide +kernel
theorem dX2_add_48 : decode cX2_add 48 = .ok (.putfield 24, 3) := by decide +kernel
theorem dX2_add_51 : decode cX2_add 51 = .ok (.return_, 1) := by decide +kernel
theorem dX2_sum_0 : decode cX2_sum 0 = .ok (.iconst 0, 1) := by decide +kernel
theorem dX2_sum_1 : decode cX2_sum 1 = .ok (.istore 4, 2) := by decide +kernel
theorem dX2_sum_3 : decode cX2_sum 3 = .ok (.iconst 0, 1) := by decide +kernel
theorem dX2_sum_4 : decode cX2_sum 4 = .ok (.istore 5, 2) := by decide +kernel
theorem dX2_sum_6 : decode cX2_sum 6 = .ok (.iload 5, 2) := by decide +kernel
theorem dX2_sum_8 : decode cX2_sum 8 = .ok (.aload_n 0, 1) := by decide +kernel
theorem dX2_sum_9 : decode cX2_sum 9 = .ok (.getfield 24, 3) := by decide +kernel
theorem dX2_sum_12 : decode cX2_sum 12 = .ok (.if_icmp .ge 40, 3) := by decide +kernel
theorem dX2_sum_15 : decode cX2_sum 15 = .ok (.aload_n 0, 1) := by decide +kernel
theorem dX2_sum_16 : decode cX2_sum 16 = .ok (.getfield 9, 3) := by decide +kernel
theorem dX2_sum_19 : decode cX2_sum 19 = .ok (.iload 5, 2) := by decide +kernel
theorem dX2_sum_21 : decode cX2_sum 21 = .ok (.iaload, 1) := by decide +kernel
theorem dX2_sum_22 : decode cX2_sum 22 = .ok (.iload_n 2, 1) := by decide +kernel
theorem dX2_sum_23 : decode cX2_sum 23 = .ok (.if_icmp .ne 23, 3) := by decide +kernel
theorem dX2_sum_26 : decode cX2_sum 26 = .ok (.aload_n 0, 1) := by decide +kernel
theorem dX2_sum_27 : decode cX2_sum 27 = .ok (.getfield 21, 3) := by decide +kernel
theorem dX2_sum_30 : decode cX2_sum 30 = .ok (.iload 5, 2) := by decide +kernel
theorem dX2_sum_32 : decode cX2_sum 32 = .ok (.iaload, 1) := by decide +kernel
theorem dX2_sum_33 : decode cX2_sum 33 = .ok (.iload_n 3, 1) := by decide +kernel
theorem dX2_sum_34 : decode cX2_sum 34 = .ok (.if_icmp .gt 12, 3) := by decide +kernel
theorem dX2_sum_37 : decode cX2_sum 37 = .ok (.iload 4, 2) := by decide +kernel
theorem dX2_sum_39 : decode cX2_sum 39 = .ok (.aload_n 1, 1) := by decide +kernel
theorem dX2_sum_40 : decode cX2_sum 40 = .ok (.iload 5, 2) := by decide +kernel
theorem dX2_sum_42 : decode cX2_sum 42 = .ok (.iaload, 1) := by decide +kernel
theorem dX2_sum_43 : decode cX2_sum 43 = .ok (.iadd, 1) := by decide +kernel
theorem dX2_sum_44 : decode cX2_sum 44 = .ok (.istore 4, 2) := by decide +kernel
theorem dX2_sum_46 : decode cX2_sum 46 = .ok (.iinc 5 1, 3) := by decide +kernel
theorem dX2_sum_49 : decode cX2_sum 49 = .ok (.goto (-43), 3) := by decide +kernel
theorem dX2_sum_52 : decode cX2_sum 52 = .ok (.iload 4, 2) := by decide +kernel
theorem dX2_sum_54 : decode cX2_sum 54 = .ok (.ireturn, 1) := by decide +kernel
theorem dX3_init_0 : decode cX3_init 0 = .ok (.aload_n 0, 1) := by decide +kernel
theorem dX3_init_1 : decode cX3_init 1 = .ok (.invokespecial 3, 3) := by decide +kernel
theorem dX3_init_4 : decode cX3_init 4 = .ok (.aload_n 0, 1) := by decide +kernel
theorem dX3_init_5 : decode cX3_init 5 = .ok (.bipush 30, 2) := by decide +kernel
theorem dX3_init_7 : decode cX3_init 7 = .ok (.newarray .int, 2) := by decide +kernel
theorem dX3_init_9 : decode cX3_init 9 = .ok (.putfield 9, 3) := by decide +kernel
theorem dX3_init_12 : decode cX3_init 12 = .ok (.aload_n 0, 1) := by decide +kernel
theorem dX3_init_13 : decode cX3_init 13 = .ok (.bipush 30, 2) := by decide +kernel
theorem dX3_init_15 : decode cX3_init 15 = .ok (.newarray .int, 2) := by decide +kernel
theorem dX3_init_17 : decode cX3_init 17 = .ok (.putfield 15, 3) := by decide +kernel
theorem dX3_init_20 : decode cX3_init 20 = .ok (.aload_n 0, 1) := by decide +kernel
theorem dX3_init_21 : decode cX3_init 21 = .ok (.bipush 30, 2) := by decide +kernel
theorem dX3_init_23 : decode cX3_init 23 = .ok (.newarray .int, 2) := by decide +kernel
theorem dX3_init_25 : decode cX3_init 25 = .ok (.putfield 18, 3) := by decide +kernel
theorem dX3_init_28 : decode cX3_init 28 = .ok (.aload_n 0, 1) := by decide +kernel
theorem dX3_init_29 : decode cX3_init 29 = .ok (.bipush 30, 2) := by decide +kernel
theorem dX3_init_31 : decode cX3_init 31 = .ok (.newarray .int, 2) := by decide +kernel
theorem dX3_init_33 : decode cX3_init 33 = .ok (.putfield 21, 3) := by decide +kernel
theorem dX3_init_36 : decode cX3_init 36 = .ok (.aload_n 0, 1) := by decide +kernel
theorem dX3_init_37 : decode cX3_init 37 = .ok (.bipush 30, 2) := by decide +kernel
theorem dX3_init_39 : decode cX3_init 39 = .ok (.newarray .int, 2) := by decide +kernel
theorem dX3_init_41 : decode cX3_init 41 = .ok (.putfield 24, 3) := by decide +kernel
theorem dX3_init_44 : decode cX3_init 44 = .ok (.aload_n 0, 1) := by decide +kernel
theorem dX3_init_45 : decode cX3_init 45 = .ok (.bipush 30, 2) := by decide +kernel
theorem dX3_init_47 : decode cX3_init 47 = .ok (.newarray .int, 2) := by decide +kernel
theorem dX3_init_49 : decode cX3_init 49 = .ok (.putfield 27, 3) := by decide +kernel
theorem dX3_init_52 : decode cX3_init 52 = .ok (.aload_n 0, 1) := by decide +kernel
theorem dX3_init_53 : decode cX3_init 53 = .ok (.iconst 0, 1) := by decide +kernel
theorem dX3_init_54 : decode cX3_init 54 = .ok (.putfield 30, 3) := by decide +kernel
theorem dX3_init_57 : decode cX3_init 57 = .ok (.return_, 1) := by decide +kernel
theorem dX3_isFull_0 : decode cX3_isFull 0 = .ok (.aload_n 0, 1) := by decide +kernel
theorem dX3_isFull_1 : decode cX3_isFull 1 = .ok (.getfield 30, 3) := by decide +kernel
theorem dX3_isFull_4 : decode cX3_isFull 4 = .ok (.bipush 30, 2) := by decide +kernel
theorem dX3_isFull_6 : decode cX3_isFull 6 = .ok (.if_icmp .lt 7, 3) := by decide +kernel
theorem dX3_isFull_9 : decode cX3_isFull 9 = .ok (.iconst 1, 1) := by decide +kernel
theorem dX3_isFull_10 : decode cX3_isFull 10 = .ok (.goto 4, 3) := by decide +kernel
theorem dX3_isFull_13 : decode cX3_isFull 13 = .ok (.iconst 0, 1) := by decide +kernel
theorem dX3_isFull_14 : decode cX3_isFull 14 = .ok (.ireturn, 1) := by decide +kernel
theorem dX3_has_0 : decode cX3_has 0 = .ok (.iload_n 1, 1) := by decide +kernel
theorem dX3_has_1 : decode cX3_has 1 = .ok (.ifCond .lt 15, 3) := by decide +kernel
theorem dX3_has_4 : decode cX3_has 4 = .ok (.iload_n 1, 1) := by decide +kernel
theorem dX3_has_5 : decode cX3_has 5 = .ok (.aload_n 0, 1) := by decide +kernel
theorem dX3_has_6 : decode cX3_has 6 = .ok (.getfield 30, 3) := by decide +kernel
theorem dX3_has_9 : decode cX3_has 9 = .ok (.if_icmp .ge 7, 3) := by decide +kernel
theorem dX3_has_12 : decode cX3_has 12 = .ok (.iconst 1, 1) := by decide +kernel
theorem dX3_has_13 : decode cX3_has 13 = .ok (.goto 4, 3) := by decide +kernel
theorem dX3_has_16 : decode cX3_has 16 = .ok (.iconst 0, 1) := by decide +kernel
theorem dX3_has_17 : decode cX3_has 17 = .ok (.ireturn, 1) := by decide +kernel
theorem dX3_isParent_0 : decode cX3_isParent 0 = .ok (.iload_n 1, 1) := by decide +kernel
theorem dX3_isParent_1 : decode cX3_isParent 1 = .ok (.iconst (-1), 1) := by decide +kernel
theorem dX3_isParent_2 : decode cX3_isParent 2 = .ok (.if_icmp .eq 11, 3) := by decide +kernel
theorem dX3_isParent_5 : decode cX3_isParent 5 = .ok (.aload_n 0, 1) := by decide +kernel
theorem dX3_isParent_6 : decode cX3_isParent 6 = .ok (.iload_n 1, 1) := by decide +kernel
theorem dX3_isParent_7 : decode cX3_isParent 7 = .ok (.invokevirtual 34, 3) := by decide +kernel
theorem dX3_isParent_10 : decode cX3_isParent 10 = .ok (.ifCond .eq 7, 3) := by decide +kernel
theorem dX3_isParent_13 : decode cX3_isParent 13 = .ok (.iconst 1, 1) := by decide +kernel
theorem dX3_isParent_14 : decode cX3_isParent 14 = .ok (.goto 4, 3) := by decide +kernel
theorem dX3_isParent_17 : decode cX3_isParent 17 = .ok (.iconst 0, 1) := by decide +kernel
theorem dX3_isParent_18 : decode cX3_isParent 18 = .ok (.ireturn, 1) := by decide +kernel
theorem dX3_isAlive_0 : decode cX3_isAlive 0 = .ok (.aload_n 0, 1) := by decide +kernel
theorem dX3_isAlive_1 : decode cX3_isAlive 1 = .ok (.iload_n 1, 1) := by decide +kernel
theorem dX3_isAlive_2 : decode cX3_isAlive 2 = .ok (.invokevirtual 34, 3) := by decide +kernel
theorem dX3_isAlive_5 : decode cX3_isAlive 5 = .ok (.ifCond .eq 17, 3) := by decide +kernel
theorem dX3_isAlive_8 : decode cX3_isAlive 8 = .ok (.aload_n 0, 1) := by decide +kernel
theorem dX3_isAlive_9 : decode cX3_isAlive 9 = .ok (.getfield 21, 3) := by decide +kernel
theorem dX3_isAlive_12 : decode cX3_isAlive 12 = .ok (.iload_n 1, 1) := by decide +kernel
theorem dX3_isAlive_13 : decode cX3_isAlive 13 = .ok (.iaload, 1) := by decide +kernel
theorem dX3_isAlive_14 : decode cX3_isAlive 14 = .ok (.iconst (-1), 1) := by decide +kernel
theorem dX3_isAlive_15 : decode cX3_isAlive 15 = .ok (.if_icmp .ne 7, 3) := by decide +kernel
theorem dX3_isAlive_18 : decode cX3_isAlive 18 = .ok (.iconst 1, 1) := by decide +kernel
theorem dX3_isAlive_19 : decode cX3_isAlive 19 = .ok (.goto 4, 3) := by decide +kernel
theorem dX3_isAlive_22 : decode cX3_isAlive 22 = .ok (.iconst 0, 1) := by decide +kernel
theorem dX3_isAlive_23 : decode cX3_isAlive 23 = .ok (.ireturn, 1) := by decide +kernel
theorem dX3_isMaster_0 : decode cX3_isMaster 0 = .ok (.aload_n 0, 1) := by decide +kernel
theorem dX3_isMaster_1 : decode cX3_isMaster 1 = .ok (.iload_n 1, 1) := by decide +kernel
theorem dX3_isMaster_2 : decode cX3_isMaster 2 = .ok (.invokevirtual 38, 3) := by decide +kernel
theorem dX3_isMaster_5 : decode cX3_isMaster 5 = .ok (.ifCond .eq 17, 3) := by decide +kernel
theorem dX3_isMaster_8 : decode cX3_isMaster 8 = .ok (.aload_n 0, 1) := by decide +kernel
theorem dX3_isMaster_9 : decode cX3_isMaster 9 = .ok (.getfield 18, 3) := by decide +kernel
theorem dX3_isMaster_12 : decode cX3_isMaster 12 = .ok (.iload_n 1, 1) := by decide +kernel
theorem dX3_isMaster_13 : decode cX3_isMaster 13 = .ok (.iaload, 1) := by decide +kernel
theorem dX3_isMaster_14 : decode cX3_isMaster 14 = .ok (.iconst (-1), 1) := by decide +kernel
theorem dX3_isMaster_15 : decode cX3_isMaster 15 = .ok (.if_icmp .eq 7, 3) := by decide +kernel
theorem dX3_isMaster_18 : decode cX3_isMaster 18 = .ok (.iconst 1, 1) := by decide +kernel
theorem dX3_isMaster_19 : decode cX3_isMaster 19 = .ok (.goto 4, 3) := by decide +kernel
theorem dX3_isMaster_22 : decode cX3_isMaster 22 = .ok (.iconst 0, 1) := by decide +kernel
theorem dX3_isMaster_23 : decode cX3_isMaster 23 = .ok (.ireturn, 1) := by decide +kernel
theorem dX3_add_0 : decode cX3_add 0 = .ok (.aload_n 0, 1) := by decide +kernel
theorem dX3_add_1 : decode cX3_add 1 = .ok (.getfield 30, 3) := by decide +kernel
theorem dX3_add_4 : decode cX3_add 4 = .ok (.istore_n 3, 1) := by decide +kernel
theorem dX3_add_5 : decode cX3_add 5 = .ok (.aload_n 0, 1) := by decide +kernel
theorem dX3_add_6 : decode cX3_add 6 = .ok (.getfield 9, 3) := by decide +kernel
theorem dX3_add_9 : decode cX3_add 9 = .ok (.iload_n 3, 1) := by decide +kernel
theorem dX3_add_10 : decode cX3_add 10 = .ok (.iload_n 1, 1) := by decide +kernel
theorem dX3_add_11 : decode cX3_add 11 = .ok (.iastore, 1) := by decide +kernel
theorem dX3_add_12 : decode cX3_add 12 = .ok (.aload_n 0, 1) := by decide +kernel
theorem dX3_add_13 : decode cX3_add 13 = .ok (.getfield 15, 3) := by decide +kernel
theorem dX3_add_16 : decode cX3_add 16 = .ok (.iload_n 3, 1) := by decide +kernel
theorem dX3_add_17 : decode cX3_add 17 = .ok (.iload_n 2, 1) := by decide +kernel
theorem dX3_add_18 : decode cX3_add 18 = .ok (.iastore, 1) := by decide +kernel
theorem dX3_add_19 : decode cX3_add 19 = .ok (.aload_n 0, 1) := by decide +kernel
theorem dX3_add_20 : decode cX3_add 20 = .ok (.getfield 18, 3) := by decide +kernel
theorem dX3_add_23 : decode cX3_add 23 = .ok (.iload_n 3, 1) := by decide +kernel
theorem dX3_add_24 : decode cX3_add 24 = .ok (.iconst (-1), 1) := by decide +kernel
theorem dX3_add_25 : decode cX3_add 25 = .ok (.iastore, 1) := by decide +kernel
theorem dX3_add_26 : decode cX3_add 26 = .ok (.aload_n 0, 1) := by decide +kernel
theorem dX3_add_27 : decode cX3_add 27 = .ok (.getfield 21, 3) := by decide +kernel
theorem dX3_add_30 : decode cX3_add 30 = .ok (.iload_n 3, 1) := by decide +kernel
theorem dX3_add_31 : decode cX3_add 31 = .ok (.iconst (-1), 1) := by decide +kernel
theorem dX3_add_32 : decode cX3_add 32 = .ok (.iastore, 1) := by decide +kernel
theorem dX3_add_33 : decode cX3_add 33 = .ok (.aload_n 0, 1) := by decide +kernel
theorem dX3_add_34 : decode cX3_add 34 = .ok (.getfield 24, 3) := by decide +kernel
theorem dX3_add_37 : decode cX3_add 37 = .ok (.iload_n 3, 1) := by decide +kernel
theorem dX3_add_38 : decode cX3_add 38 = .ok (.iconst (-1), 1) := by decide +kernel
theorem dX3_add_39 : decode cX3_add 39 = .ok (.iastore, 1) := by decide +kernel
theorem dX3_add_40 : decode cX3_add 40 = .ok (.aload_n 0, 1) := by decide +kernel
theorem dX3_add_41 : decode cX3_add 41 = .ok (.getfield 27, 3) := by decide +kernel
theorem dX3_add_44 : decode cX3_add 44 = .ok (.iload_n 3, 1) := by decide +kernel
theorem dX3_add_45 : decode cX3_add 45 = .ok (.iconst (-1), 1) := by decide +kernel
theorem dX3_add_46 : decode cX3_add 46 = .ok (.iastore, 1) := by decide +kernel
theorem dX3_add_47 : decode cX3_add 47 = .ok (.aload_n 0, 1) := by decide +kernel
theorem dX3_add_48 : decode cX3_add 48 = .ok (.dup, 1) := by decide +kernel
theorem dX3_add_49 : decode cX3_add 49 = .ok (.getfield 30, 3) := by decide +kernel
theorem dX3_add_52 : decode cX3_add 52 = .ok (.iconst 1, 1) := by decide +kernel
theorem dX3_add_53 : decode cX3_add 53 = .ok (.iadd, 1) := by decide +kernel
theorem dX3_add_54 : decode cX3_add 54 = .ok (.putfield 30, 3) := by decide +kernel
theorem dX3_add_57 : decode cX3_add 57 = .ok (.iload_n 3, 1) := by decide +kernel
theorem dX3_add_58 : decode cX3_add 58 = .ok (.ireturn, 1) := by decide +kernel
theorem dX3_raise_0 : decode cX3_raise 0 = .ok (.aload_n 0, 1) := by decide +kernel
theorem dX3_raise_1 : decode cX3_raise 1 = .ok (.getfield 18, 3) := by decide +kernel
theorem dX3_raise_4 : decode cX3_raise 4 = .ok (.iload_n 1, 1) := by decide +kernel
theorem dX3_raise_5 : decode cX3_raise 5 = .ok (.iaload, 1) := by decide +kernel
theorem dX3_raise_6 : decode cX3_raise 6 = .ok (.iconst (-1), 1) := by decide +kernel
theorem dX3_raise_7 : decode cX3_raise 7 = .ok (.if_icmp .ne 10, 3) := by decide +kernel
theorem dX3_raise_10 : decode cX3_raise 10 = .ok (.aload_n 0, 1) := by decide +kernel
theorem dX3_raise_11 : decode cX3_raise 11 = .ok (.getfield 18, 3) := by decide +kernel
theorem dX3_raise_14 : decode cX3_raise 14 = .ok (.iload_n 1, 1) := by decide +kernel
theorem dX3_raise_15 : decode cX3_raise 15 = .ok (.iload_n 2, 1) := by decide +kernel
theorem dX3_raise_16 : decode cX3_raise 16 = .ok (.iastore, 1) := by decide +kernel
theorem dX3_raise_17 : decode cX3_raise 17 = .ok (.return_, 1) := by decide +kernel
theorem dX3_bury_0 : decode cX3_bury 0 = .ok (.aload_n 0, 1) := by decide +kernel
theorem dX3_bury_1 : decode cX3_bury 1 = .ok (.getfield 21, 3) := by decide +kernel
theorem dX3_bury_4 : decode cX3_bury 4 = .ok (.iload_n 1, 1) := by decide +kernel
theorem dX3_bury_5 : decode cX3_bury 5 = .ok (.iload_n 3, 1) := by decide +kernel
theorem dX3_bury_6 : decode cX3_bury 6 = .ok (.iastore, 1) := by decide +kernel
theorem dX3_bury_7 : decode cX3_bury 7 = .ok (.aload_n 0, 1) := by decide +kernel
theorem dX3_bury_8 : decode cX3_bury 8 = .ok (.getfield 24, 3) := by decide +kernel
theorem dX3_bury_11 : decode cX3_bury 11 = .ok (.iload_n 1, 1) := by decide +kernel
theorem dX3_bury_12 : decode cX3_bury 12 = .ok (.iconst (-1), 1) := by decide +kernel
theorem dX3_bury_13 : decode cX3_bury 13 = .ok (.iastore, 1) := by decide +kernel
theorem dX3_bury_14 : decode cX3_bury 14 = .ok (.iconst 0, 1) := by decide +kernel
theorem dX3_bury_15 : decode cX3_bury 15 = .ok (.istore 4, 2) := by decide +kernel
theorem dX3_bury_17 : decode cX3_bury 17 = .ok (.iload 4, 2) := by decide +kernel
theorem dX3_bury_19 : decode cX3_bury 19 = .ok (.aload_n 0, 1) := by decide +kernel
theorem dX3_bury_20 : decode cX3_bury 20 = .ok (.getfield 30, 3) := by decide +kernel
theorem dX3_bury_23 : decode cX3_bury 23 = .ok (.if_icmp .ge 38, 3) := by decide +kernel
theorem dX3_bury_26 : decode cX3_bury 26 = .ok (.aload_n 0, 1) := by decide +kernel
theorem dX3_bury_27 : decode cX3_bury 27 = .ok (.getfield 24, 3) := by decide +kernel
theorem dX3_bury_30 : decode cX3_bury 30 = .ok (.iload 4, 2) := by decide +kernel
theorem dX3_bury_32 : decode cX3_bury 32 = .ok (.iaload, 1) := by decide +kernel
theorem dX3_bury_33 : decode cX3_bury 33 = .ok (.iload_n 1, 1) := by decide +kernel
theorem dX3_bury_34 : decode cX3_bury 34 = .ok (.if_icmp .ne 21, 3) := by decide +kernel
theorem dX3_bury_37 : decode cX3_bury 37 = .ok (.aload_n 0, 1) := by decide +kernel
theorem dX3_bury_38 : decode cX3_bury 38 = .ok (.getfield 24, 3) := by decide +kernel
theorem dX3_bury_41 : decode cX3_bury 41 = .ok (.iload 4, 2) := by decide +kernel
theorem dX3_bury_43 : decode cX3_bury 43 = .ok (.iload 4, 2) := by decide +kernel
theorem dX3_bury_45 : decode cX3_bury 45 = .ok (.iload_n 2, 1) := by decide +kernel
theorem dX3_bury_46 : decode cX3_bury 46 = .ok (.if_icmp .ne 7, 3) := by decide +kernel
theorem dX3_bury_49 : decode cX3_bury 49 = .ok (.iconst (-1), 1) := by decide +kernel
theorem dX3_bury_50 : decode cX3_bury 50 = .ok (.goto 4, 3) := by decide +kernel
theorem dX3_bury_53 : decode cX3_bury 53 = .ok (.iload_n 2, 1) := by decide +kernel
theorem dX3_bury_54 : decode cX3_bury 54 = .ok (.iastore, 1) := by decide +kernel
theorem dX3_bury_55 : decode cX3_bury 55 = .ok (.iinc 4 1, 3) := by decide +kernel
theorem dX3_bury_58 : decode cX3_bury 58 = .ok (.goto (-41), 3) := by decide +kernel
theorem dX3_bury_61 : decode cX3_bury 61 = .ok (.iload_n 2, 1) := by decide +kernel
theorem dX3_bury_62 : decode cX3_bury 62 = .ok (.iconst (-1), 1) := by decide +kernel
theorem dX3_bury_63 : decode cX3_bury 63 = .ok (.if_icmp .eq 13, 3) := by decide +kernel
theorem dX3_bury_66 : decode cX3_bury 66 = .ok (.aload_n 0, 1) := by decide +kernel
theorem dX3_bury_67 : decode cX3_bury 67 = .ok (.getfield 27, 3) := by decide +kernel
theorem dX3_bury_70 : decode cX3_bury 70 = .ok (.iload_n 2, 1) := by decide +kernel
theorem dX3_bury_71 : decode cX3_bury 71 = .ok (.iload_n 3, 1) := by decide +kernel
theorem dX3_bury_72 : decode cX3_bury 72 = .ok (.bipush 100, 2) := by decide +kernel
theorem dX3_bury_74 : decode cX3_bury 74 = .ok (.iadd, 1) := by decide +kernel
theorem dX3_bury_75 : decode cX3_bury 75 = .ok (.iastore, 1) := by decide +kernel
theorem dX3_bury_76 : decode cX3_bury 76 = .ok (.return_, 1) := by decide +kernel
theorem dX3_areKin_0 : decode cX3_areKin 0 = .ok (.iload_n 1, 1) := by decide +kernel
theorem dX3_areKin_1 : decode cX3_areKin 1 = .ok (.iload_n 2, 1) := by decide +kernel
theorem dX3_areKin_2 : decode cX3_areKin 2 = .ok (.if_icmp .eq 49, 3) := by decide +kernel
theorem dX3_areKin_5 : decode cX3_areKin 5 = .ok (.aload_n 0, 1) := by decide +kernel
theorem dX3_areKin_6 : decode cX3_areKin 6 = .ok (.iload_n 1, 1) := by decide +kernel
theorem dX3_areKin_7 : decode cX3_areKin 7 = .ok (.iload_n 2, 1) := by decide +kernel
theorem dX3_areKin_8 : decode cX3_areKin 8 = .ok (.invokevirtual 41, 3) := by decide +kernel
theorem dX3_areKin_11 : decode cX3_areKin 11 = .ok (.ifCond .ne 40, 3) := by decide +kernel
theorem dX3_areKin_14 : decode cX3_areKin 14 = .ok (.aload_n 0, 1) := by decide +kernel
theorem dX3_areKin_15 : decode cX3_areKin 15 = .ok (.iload_n 2, 1) := by decide +kernel
theorem dX3_areKin_16 : decode cX3_areKin 16 = .ok (.iload_n 1, 1) := by decide +kernel
theorem dX3_areKin_17 : decode cX3_areKin 17 = .ok (.invokevirtual 41, 3) := by decide +kernel
theorem dX3_areKin_20 : decode cX3_areKin 20 = .ok (.ifCond .ne 31, 3) := by decide +kernel
theorem dX3_areKin_23 : decode cX3_areKin 23 = .ok (.aload_n 0, 1) := by decide +kernel
theorem dX3_areKin_24 : decode cX3_areKin 24 = .ok (.aload_n 0, 1) := by decide +kernel
theorem dX3_areKin_25 : decode cX3_areKin 25 = .ok (.getfield 9, 3) := by decide +kernel
theorem dX3_areKin_28 : decode cX3_areKin 28 = .ok (.iload_n 1, 1) := by decide +kernel
theorem dX3_areKin_29 : decode cX3_areKin 29 = .ok (.iaload, 1) := by decide +kernel
theorem dX3_areKin_30 : decode cX3_areKin 30 = .ok (.iload_n 2, 1) := by decide +kernel
theorem dX3_areKin_31 : decode cX3_areKin 31 = .ok (.invokevirtual 45, 3) := by decide +kernel
theorem dX3_areKin_34 : decode cX3_areKin 34 = .ok (.ifCond .ne 17, 3) := by decide +kernel
theorem dX3_areKin_37 : decode cX3_areKin 37 = .ok (.aload_n 0, 1) := by decide +kernel
theorem dX3_areKin_38 : decode cX3_areKin 38 = .ok (.aload_n 0, 1) := by decide +kernel
theorem dX3_areKin_39 : decode cX3_areKin 39 = .ok (.getfield 15, 3) := by decide +kernel
theorem dX3_areKin_42 : decode cX3_areKin 42 = .ok (.iload_n 1, 1) := by decide +kernel
theorem dX3_areKin_43 : decode cX3_areKin 43 = .ok (.iaload, 1) := by decide +kernel
theorem dX3_areKin_44 : decode cX3_areKin 44 = .ok (.iload_n 2, 1) := by decide +kernel
theorem dX3_areKin_45 : decode cX3_areKin 45 = .ok (.invokevirtual 45, 3) := by decide +kernel
theorem dX3_areKin_48 : decode cX3_areKin 48 = .ok (.ifCond .eq 7, 3) := by decide +kernel
theorem dX3_areKin_51 : decode cX3_areKin 51 = .ok (.iconst 1, 1) := by decide +kernel
theorem dX3_areKin_52 : decode cX3_areKin 52 = .ok (.goto 4, 3) := by decide +kernel
theorem dX3_areKin_55 : decode cX3_areKin 55 = .ok (.iconst 0, 1) := by decide +kernel
theorem dX3_areKin_56 : decode cX3_areKin 56 = .ok (.ireturn, 1) := by decide +kernel
theorem dX3_isParentOf_0 : decode cX3_isParentOf 0 = .ok (.aload_n 0, 1) := by decide +kernel
theorem dX3_isParentOf_1 : decode cX3_isParentOf 1 = .ok (.getfield 9, 3) := by decide +kernel
theorem dX3_isParentOf_4 : decode cX3_isParentOf 4 = .ok (.iload_n 2, 1) := by decide +kernel
theorem dX3_isParentOf_5 : decode cX3_isParentOf 5 = .ok (.iaload, 1) := by decide +kernel
theorem dX3_isParentOf_6 : decode cX3_isParentOf 6 = .ok (.iload_n 1, 1) := by decide +kernel
theorem dX3_isParentOf_7 : decode cX3_isParentOf 7 = .ok (.if_icmp .eq 13, 3) := by decide +kernel
theorem dX3_isParentOf_10 : decode cX3_isParentOf 10 = .ok (.aload_n 0, 1) := by decide +kernel
theorem dX3_isParentOf_11 : decode cX3_isParentOf 11 = .ok (.getfield 15, 3) := by decide +kernel
theorem dX3_isParentOf_14 : decode cX3_isParentOf 14 = .ok (.iload_n 2, 1) := by decide +kernel
theorem dX3_isParentOf_15 : decode cX3_isParentOf 15 = .ok (.iaload, 1) := by decide +kernel
theorem dX3_isParentOf_16 : decode cX3_isParentOf 16 = .ok (.iload_n 1, 1) := by decide +kernel
theorem dX3_isParentOf_17 : decode cX3_isParentOf 17 = .ok (.if_icmp .ne 7, 3) := by decide +kernel
theorem dX3_isParentOf_20 : decode cX3_isParentOf 20 = .ok (.iconst 1, 1) := by decide +kernel
theorem dX3_isParentOf_21 : decode cX3_isParentOf 21 = .ok (.goto 4, 3) := by decide +kernel
theorem dX3_isParentOf_24 : decode cX3_isParentOf 24 = .ok (.iconst 0, 1) := by decide +kernel
theorem dX3_isParentOf_25 : decode cX3_isParentOf 25 = .ok (.ireturn, 1) := by decide +kernel
theorem dX3_shareParent_0 : decode cX3_shareParent 0 = .ok (.iload_n 1, 1) := by decide +kernel
theorem dX3_shareParent_1 : decode cX3_shareParent 1 = .ok (.iconst (-1), 1) := by decide +kernel
theorem dX3_shareParent_2 : decode cX3_shareParent 2 = .ok (.if_icmp .eq 16, 3) := by decide +kernel
theorem dX3_shareParent_5 : decode cX3_shareParent 5 = .ok (.aload_n 0, 1) := by decide +kernel
theorem dX3_shareParent_6 : decode cX3_shareParent 6 = .ok (.iload_n 1, 1) := by decide +kernel
theorem dX3_shareParent_7 : decode cX3_shareParent 7 = .ok (.iload_n 2, 1) := by decide +kernel
theorem dX3_shareParent_8 : decode cX3_shareParent 8 = .ok (.invokevirtual 41, 3) := by decide +kernel
theorem dX3_shareParent_11 : decode cX3_shareParent 11 = .ok (.ifCond .eq 7, 3) := by decide +kernel
theorem dX3_shareParent_14 : decode cX3_shareParent 14 = .ok (.iconst 1, 1) := by decide +kernel
theorem dX3_shareParent_15 : decode cX3_shareParent 15 = .ok (.goto 4, 3) := by decide +kernel
theorem dX3_shareParent_18 : decode cX3_shareParent 18 = .ok (.iconst 0, 1) := by decide +kernel
theorem dX3_shareParent_19 : decode cX3_shareParent 19 = .ok (.ireturn, 1) := by decide +kernel
theorem dX3_isChildOfMaster_0 : decode cX3_isChildOfMaster 0 = .ok (.aload_n 0, 1) := by decide +kernel
theorem dX3_isChildOfMaster_1 : decode cX3_isChildOfMaster 1 = .ok (.aload_n 0, 1) := by decide +kernel
theorem dX3_isChildOfMaster_2 : decode cX3_isChildOfMaster 2 = .ok (.getfield 9, 3) := by decide +kernel
theorem dX3_isChildOfMaster_5 : decode cX3_isChildOfMaster 5 = .ok (.iload_n 1, 1) := by decide +kernel
theorem dX3_isChildOfMaster_6 : decode cX3_isChildOfMaster 6 = .ok (.iaload, 1) := by decide +kernel
theorem dX3_isChildOfMaster_7 : decode cX3_isChildOfMaster 7 = .ok (.iload_n 2, 1) := by decide +kernel
theorem dX3_isChildOfMaster_8 : decode cX3_isChildOfMaster 8 = .ok (.invokevirtual 48, 3) := by decide +kernel
theorem dX3_isChildOfMaster_11 : decode cX3_isChildOfMaster 11 = .ok (.ifCond .ne 17, 3) := by decide +kernel
theorem dX3_isChildOfMaster_14 : decode cX3_isChildOfMaster 14 = .ok (.aload_n 0, 1) := by decide +kernel
theorem dX3_isChildOfMaster_15 : decode cX3_isChildOfMaster 15 = .ok (.aload_n 0, 1) := by decide +kernel
theorem dX3_isChildOfMaster_16 : decode cX3_isChildOfMaster 16 = .ok (.getfield 15, 3) := by decide +kernel
theorem dX3_isChildOfMaster_19 : decode cX3_isChildOfMaster 19 = .ok (.iload_n 1, 1) := by decide +kernel
theorem dX3_isChildOfMaster_20 : decode cX3_isChildOfMaster 20 = .ok (.iaload, 1) := by decide +kernel
theorem dX3_isChildOfMaster_21 : decode cX3_isChildOfMaster 21 = .ok (.iload_n 2, 1) := by decide +kernel
theorem dX3_isChildOfMaster_22 : decode cX3_isChildOfMaster 22 = .ok (.invokevirtual 48, 3) := by decide +kernel
theorem dX3_isChildOfMaster_25 : decode cX3_isChildOfMaster 25 = .ok (.ifCond .eq 7, 3) := by decide +kernel
theorem dX3_isChildOfMaster_28 : decode cX3_isChildOfMaster 28 = .ok (.iconst 1, 1) := by decide +kernel
theorem dX3_isChildOfMaster_29 : decode cX3_isChildOfMaster 29 = .ok (.goto 4, 3) := by decide +kernel
theorem dX3_isChildOfMaster_32 : decode cX3_isChildOfMaster 32 = .ok (.iconst 0, 1) := by decide +kernel
theorem dX3_isChildOfMaster_33 : decode cX3_isChildOfMaster 33 = .ok (.ireturn, 1) := by decide +kernel
theorem dX3_wasMasterBy_0 : decode cX3_wasMasterBy 0 = .ok (.aload_n 0, 1) := by decide +kernel
theorem dX3_wasMasterBy_1 : decode cX3_wasMasterBy 1 = .ok (.iload_n 1, 1) := by decide +kernel
theorem dX3_wasMasterBy_2 : decode cX3_wasMasterBy 2 = .ok (.invokevirtual 34, 3) := by decide +kernel
theorem dX3_wasMasterBy_5 : decode cX3_wasMasterBy 5 = .ok (.ifCond .eq 27, 3) := by decide +kernel
theorem dX3_wasMasterBy_8 : decode cX3_wasMasterBy 8 = .ok (.aload_n 0, 1) := by decide +kernel
theorem dX3_wasMasterBy_9 : decode cX3_wasMasterBy 9 = .ok (.getfield 18, 3) := by decide +kernel
theorem dX3_wasMasterBy_12 : decode cX3_wasMasterBy 12 = .ok (.iload_n 1, 1) := by decide +kernel
theorem dX3_wasMasterBy_13 : decode cX3_wasMasterBy 13 = .ok (.iaload, 1) := by decide +kernel
theorem dX3_wasMasterBy_14 : decode cX3_wasMasterBy 14 = .ok (.iconst (-1), 1) := by decide +kernel
theorem dX3_wasMasterBy_15 : decode cX3_wasMasterBy 15 = .ok (.if_icmp .eq 17, 3) := by decide +kernel
theorem dX3_wasMasterBy_18 : decode cX3_wasMasterBy 18 = .ok (.aload_n 0, 1) := by decide +kernel
theorem dX3_wasMasterBy_19 : decode cX3_wasMasterBy 19 = .ok (.getfield 18, 3) := by decide +kernel
theorem dX3_wasMasterBy_22 : decode cX3_wasMasterBy 22 = .ok (.iload_n 1, 1) := by decide +kernel
theorem dX3_wasMasterBy_23 : decode cX3_wasMasterBy 23 = .ok (.iaload, 1) := by decide +kernel
theorem dX3_wasMasterBy_24 : decode cX3_wasMasterBy 24 = .ok (.iload_n 2, 1) := by decide +kernel
theorem dX3_wasMasterBy_25 : decode cX3_wasMasterBy 25 = .ok (.if_icmp .gt 7, 3) := by decide +kernel
theorem dX3_wasMasterBy_28 : decode cX3_wasMasterBy 28 = .ok (.iconst 1, 1) := by decide +kernel
theorem dX3_wasMasterBy_29 : decode cX3_wasMasterBy 29 = .ok (.goto 4, 3) := by decide +kernel
theorem dX3_wasMasterBy_32 : decode cX3_wasMasterBy 32 = .ok (.iconst 0, 1) := by decide +kernel
theorem dX3_wasMasterBy_33 : decode cX3_wasMasterBy 33 = .ok (.ireturn, 1) := by decide +kernel
theorem dX3_masters_0 : decode cX3_masters 0 = .ok (.iconst 0, 1) := by decide +kernel
theorem dX3_masters_1 : decode cX3_masters 1 = .ok (.istore_n 1, 1) := by decide +kernel
theorem dX3_masters_2 : decode cX3_masters 2 = .ok (.iconst 0, 1) := by decide +kernel
theorem dX3_masters_3 : decode cX3_masters 3 = .ok (.istore_n 2, 1) := by decide +kernel
theorem dX3_masters_4 : decode cX3_masters 4 = .ok (.iload_n 2, 1) := by decide +kernel
theorem dX3_masters_5 : decode cX3_masters 5 = .ok (.aload_n 0, 1) := by decide +kernel
theorem dX3_masters_6 : decode cX3_masters 6 = .ok (.getfield 30, 3) := by decide +kernel
theorem dX3_masters_9 : decode cX3_masters 9 = .ok (.if_icmp .ge 20, 3) := by decide +kernel
theorem dX3_masters_12 : decode cX3_masters 12 = .ok (.aload_n 0, 1) := by decide +kernel
theorem dX3_masters_13 : decode cX3_masters 13 = .ok (.iload_n 2, 1) := by decide +kernel
theorem dX3_masters_14 : decode cX3_masters 14 = .ok (.invokevirtual 51, 3) := by decide +kernel
theorem dX3_masters_17 : decode cX3_masters 17 = .ok (.ifCond .eq 6, 3) := by decide +kernel
theorem dX3_masters_20 : decode cX3_masters 20 = .ok (.iinc 1 1, 3) := by decide +kernel
theorem dX3_masters_23 : decode cX3_masters 23 = .ok (.iinc 2 1, 3) := by decide +kernel
theorem dX3_masters_26 : decode cX3_masters 26 = .ok (.goto (-22), 3) := by decide +kernel
theorem dX3_masters_29 : decode cX3_masters 29 = .ok (.iload_n 1, 1) := by decide +kernel
theorem dX3_masters_30 : decode cX3_masters 30 = .ok (.ireturn, 1) := by decide +kernel
theorem dX3_handsOf_0 : decode cX3_handsOf 0 = .ok (.iconst 0, 1) := by decide +kernel
theorem dX3_handsOf_1 : decode cX3_handsOf 1 = .ok (.istore_n 2, 1) := by decide +kernel
theorem dX3_handsOf_2 : decode cX3_handsOf 2 = .ok (.iconst 0, 1) := by decide +kernel
theorem dX3_handsOf_3 : decode cX3_handsOf 3 = .ok (.istore_n 3, 1) := by decide +kernel
theorem dX3_handsOf_4 : decode cX3_handsOf 4 = .ok (.iload_n 3, 1) := by decide +kernel
theorem dX3_handsOf_5 : decode cX3_handsOf 5 = .ok (.aload_n 0, 1) := by decide +kernel
theorem dX3_handsOf_6 : decode cX3_handsOf 6 = .ok (.getfield 30, 3) := by decide +kernel
theorem dX3_handsOf_9 : decode cX3_handsOf 9 = .ok (.if_icmp .ge 22, 3) := by decide +kernel
theorem dX3_handsOf_12 : decode cX3_handsOf 12 = .ok (.aload_n 0, 1) := by decide +kernel
theorem dX3_handsOf_13 : decode cX3_handsOf 13 = .ok (.getfield 24, 3) := by decide +kernel
theorem dX3_handsOf_16 : decode cX3_handsOf 16 = .ok (.iload_n 3, 1) := by decide +kernel
theorem dX3_handsOf_17 : decode cX3_handsOf 17 = .ok (.iaload, 1) := by decide +kernel
theorem dX3_handsOf_18 : decode cX3_handsOf 18 = .ok (.iload_n 1, 1) := by decide +kernel
theorem dX3_handsOf_19 : decode cX3_handsOf 19 = .ok (.if_icmp .ne 6, 3) := by decide +kernel
theorem dX3_handsOf_22 : decode cX3_handsOf 22 = .ok (.iinc 2 1, 3) := by decide +kernel
theorem dX3_handsOf_25 : decode cX3_handsOf 25 = .ok (.iinc 3 1, 3) := by decide +kernel
theorem dX3_handsOf_28 : decode cX3_handsOf 28 = .ok (.goto (-24), 3) := by decide +kernel
theorem dX3_handsOf_31 : decode cX3_handsOf 31 = .ok (.iload_n 2, 1) := by decide +kernel
theorem dX3_handsOf_32 : decode cX3_handsOf 32 = .ok (.ireturn, 1) := by decide +kernel
theorem dX3_allHands_0 : decode cX3_allHands 0 = .ok (.aload_n 0, 1) := by decide +kernel
theorem dX3_allHands_1 : decode cX3_allHands 1 = .ok (.getfield 30, 3) := by decide +kernel
theorem dX3_allHands_4 : decode cX3_allHands 4 = .ok (.aload_n 0, 1) := by decide +kernel
theorem dX3_allHands_5 : decode cX3_allHands 5 = .ok (.iconst (-1), 1) := by decide +kernel
theorem dX3_allHands_6 : decode cX3_allHands 6 = .ok (.invokevirtual 54, 3) := by decide +kernel
theorem dX3_allHands_9 : decode cX3_allHands 9 = .ok (.isub, 1) := by decide +kernel
theorem dX3_allHands_10 : decode cX3_allHands 10 = .ok (.ireturn, 1) := by decide +kernel
theorem dX4_init_0 : decode cX4_init 0 = .ok (.aload_n 0, 1) := by decide +kernel
theorem dX4_init_1 : decode cX4_init 1 = .ok (.invokespecial 5, 3) := by decide +kernel
theorem dX4_init_4 : decode cX4_init 4 = .ok (.aload_n 0, 1) := by decide +kernel
theorem dX4_init_5 : decode cX4_init 5 = .ok (.bipush 40, 2) := by decide +kernel
theorem dX4_init_7 : decode cX4_init 7 = .ok (.newarray .int, 2) := by decide +kernel
theorem dX4_init_9 : decode cX4_init 9 = .ok (.putfield 11, 3) := by decide +kernel
theorem dX4_init_12 : decode cX4_init 12 = .ok (.aload_n 0, 1) := by decide +kernel
theorem dX4_init_13 : decode cX4_init 13 = .ok (.bipush 40, 2) := by decide +kernel
theorem dX4_init_15 : decode cX4_init 15 = .ok (.newarray .int, 2) := by decide +kernel
theorem dX4_init_17 : decode cX4_init 17 = .ok (.putfield 15, 3) := by decide +kernel
theorem dX4_init_20 : decode cX4_init 20 = .ok (.aload_n 0, 1) := by decide +kernel
theorem dX4_init_21 : decode cX4_init 21 = .ok (.bipush 120, 2) := by decide +kernel
theorem dX4_init_23 : decode cX4_init 23 = .ok (.newarray .int, 2) := by decide +kernel
theorem dX4_init_25 : decode cX4_init 25 = .ok (.putfield 18, 3) := by decide +kernel
theorem dX4_init_28 : decode cX4_init 28 = .ok (.aload_n 0, 1) := by decide +kernel
theorem dX4_init_29 : decode cX4_init 29 = .ok (.sipush 480, 3) := by decide +kernel
theorem dX4_init_32 : decode cX4_init 32 = .ok (.newarray .int, 2) := by decide +kernel
theorem dX4_init_34 : decode cX4_init 34 = .ok (.putfield 21, 3) := by decide +kernel
theorem dX4_init_37 : decode cX4_init 37 = .ok (.aload_n 0, 1) := by decide +kernel
theorem dX4_init_38 : decode cX4_init 38 = .ok (.iconst 0, 1) := by decide +kernel
theorem dX4_init_39 : decode cX4_init 39 = .ok (.putfield 24, 3) := by decide +kernel
theorem dX4_init_42 : decode cX4_init 42 = .ok (.return_, 1) := by decide +kernel
theorem dX4_isFull_0 : decode cX4_isFull 0 = .ok (.aload_n 0, 1) := by decide +kernel
theorem dX4_isFull_1 : decode cX4_isFull 1 = .ok (.getfield 24, 3) := by decide +kernel
theorem dX4_isFull_4 : decode cX4_isFull 4 = .ok (.bipush 40, 2) := by decide +kernel
theorem dX4_isFull_6 : decode cX4_isFull 6 = .ok (.if_icmp .lt 7, 3) := by decide +kernel
theorem dX4_isFull_9 : decode cX4_isFull 9 = .ok (.iconst 1, 1) := by decide +kernel
theorem dX4_isFull_10 : decode cX4_isFull 10 = .ok (.goto 4, 3) := by decide +kernel
theorem dX4_isFull_13 : decode cX4_isFull 13 = .ok (.iconst 0, 1) := by decide +kernel
theorem dX4_isFull_14 : decode cX4_isFull 14 = .ok (.ireturn, 1) := by decide +kernel
theorem dX4_has_0 : decode cX4_has 0 = .ok (.iload_n 1, 1) := by decide +kernel
theorem dX4_has_1 : decode cX4_has 1 = .ok (.ifCond .lt 15, 3) := by decide +kernel
theorem dX4_has_4 : decode cX4_has 4 = .ok (.iload_n 1, 1) := by decide +kernel
theorem dX4_has_5 : decode cX4_has 5 = .ok (.aload_n 0, 1) := by decide +kernel
theorem dX4_has_6 : decode cX4_has 6 = .ok (.getfield 24, 3) := by decide +kernel
theorem dX4_has_9 : decode cX4_has 9 = .ok (.if_icmp .ge 7, 3) := by decide +kernel
theorem dX4_has_12 : decode cX4_has 12 = .ok (.iconst 1, 1) := by decide +kernel
theorem dX4_has_13 : decode cX4_has 13 = .ok (.goto 4, 3) := by decide +kernel
theorem dX4_has_16 : decode cX4_has 16 = .ok (.iconst 0, 1) := by decide +kernel
theorem dX4_has_17 : decode cX4_has 17 = .ok (.ireturn, 1) := by decide +kernel
theorem dX4_isJudge_0 : decode cX4_isJudge 0 = .ok (.iload_n 0, 1) := by decide +kernel
theorem dX4_isJudge_1 : decode cX4_isJudge 1 = .ok (.ifCond .lt 12, 3) := by decide +kernel
theorem dX4_isJudge_4 : decode cX4_isJudge 4 = .ok (.iload_n 0, 1) := by decide +kernel
theorem dX4_isJudge_5 : decode cX4_isJudge 5 = .ok (.iconst 3, 1) := by decide +kernel
theorem dX4_isJudge_6 : decode cX4_isJudge 6 = .ok (.if_icmp .ge 7, 3) := by decide +kernel
theorem dX4_isJudge_9 : decode cX4_isJudge 9 = .ok (.iconst 1, 1) := by decide +kernel
theorem dX4_isJudge_10 : decode cX4_isJudge 10 = .ok (.goto 4, 3) := by decide +kernel
theorem dX4_isJudge_13 : decode cX4_isJudge 13 = .ok (.iconst 0, 1) := by decide +kernel
theorem dX4_isJudge_14 : decode cX4_isJudge 14 = .ok (.ireturn, 1) := by decide +kernel
theorem dX4_isPart_0 : decode cX4_isPart 0 = .ok (.iload_n 0, 1) := by decide +kernel
theorem dX4_isPart_1 : decode cX4_isPart 1 = .ok (.ifCond .lt 12, 3) := by decide +kernel
theorem dX4_isPart_4 : decode cX4_isPart 4 = .ok (.iload_n 0, 1) := by decide +kernel
theorem dX4_isPart_5 : decode cX4_isPart 5 = .ok (.iconst 4, 1) := by decide +kernel
theorem dX4_isPart_6 : decode cX4_isPart 6 = .ok (.if_icmp .ge 7, 3) := by decide +kernel
theorem dX4_isPart_9 : decode cX4_isPart 9 = .ok (.iconst 1, 1) := by decide +kernel
theorem dX4_isPart_10 : decode cX4_isPart 10 = .ok (.goto 4, 3) := by decide +kernel
theorem dX4_isPart_13 : decode cX4_isPart 13 = .ok (.iconst 0, 1) := by decide +kernel
theorem dX4_isPart_14 : decode cX4_isPart 14 = .ok (.ireturn, 1) := by decide +kernel
theorem dX4_isDone_0 : decode cX4_isDone 0 = .ok (.aload_n 0, 1) := by decide +kernel
theorem dX4_isDone_1 : decode cX4_isDone 1 = .ok (.getfield 15, 3) := by decide +kernel
theorem dX4_isDone_4 : decode cX4_isDone 4 = .ok (.iload_n 1, 1) := by decide +kernel
theorem dX4_isDone_5 : decode cX4_isDone 5 = .ok (.iaload, 1) := by decide +kernel
theorem dX4_isDone_6 : decode cX4_isDone 6 = .ok (.iconst (-1), 1) := by decide +kernel
theorem dX4_isDone_7 : decode cX4_isDone 7 = .ok (.if_icmp .eq 7, 3) := by decide +kernel
theorem dX4_isDone_10 : decode cX4_isDone 10 = .ok (.iconst 1, 1) := by decide +kernel
theorem dX4_isDone_11 : decode cX4_isDone 11 = .ok (.goto 4, 3) := by decide +kernel
theorem dX4_isDone_14 : decode cX4_isDone 14 = .ok (.iconst 0, 1) := by decide +kernel
theorem dX4_isDone_15 : decode cX4_isDone 15 = .ok (.ireturn, 1) := by decide +kernel
theorem dX4_isPassed_0 : decode cX4_isPassed 0 = .ok (.aload_n 0, 1) := by decide +kernel
theorem dX4_isPassed_1 : decode cX4_isPassed 1 = .ok (.iload_n 1, 1) := by decide +kernel
theorem dX4_isPassed_2 : decode cX4_isPassed 2 = .ok (.invokevirtual 28, 3) := by decide +kernel
theorem dX4_isPassed_5 : decode cX4_isPassed 5 = .ok (.ifCond .eq 16, 3) := by decide +kernel
theorem dX4_isPassed_8 : decode cX4_isPassed 8 = .ok (.aload_n 0, 1) := by decide +kernel
theorem dX4_isPassed_9 : decode cX4_isPassed 9 = .ok (.iload_n 1, 1) := by decide +kernel
theorem dX4_isPassed_10 : decode cX4_isPassed 10 = .ok (.invokevirtual 32, 3) := by decide +kernel
theorem dX4_isPassed_13 : decode cX4_isPassed 13 = .ok (.iconst (-1), 1) := by decide +kernel
theorem dX4_isPassed_14 : decode cX4_isPassed 14 = .ok (.if_icmp .ne 7, 3) := by decide +kernel
theorem dX4_isPassed_17 : decode cX4_isPassed 17 = .ok (.iconst 1, 1) := by decide +kernel
theorem dX4_isPassed_18 : decode cX4_isPassed 18 = .ok (.goto 4, 3) := by decide +kernel
theorem dX4_isPassed_21 : decode cX4_isPassed 21 = .ok (.iconst 0, 1) := by decide +kernel
theorem dX4_isPassed_22 : decode cX4_isPassed 22 = .ok (.ireturn, 1) := by decide +kernel
theorem dX4_hasOpen_0 : decode cX4_hasOpen 0 = .ok (.iconst 0, 1) := by decide +kernel
theorem dX4_hasOpen_1 : decode cX4_hasOpen 1 = .ok (.istore_n 2, 1) := by decide +kernel
theorem dX4_hasOpen_2 : decode cX4_hasOpen 2 = .ok (.iload_n 2, 1) := by decide +kernel
theorem dX4_hasOpen_3 : decode cX4_hasOpen 3 = .ok (.aload_n 0, 1) := by decide +kernel
theorem dX4_hasOpen_4 : decode cX4_hasOpen 4 = .ok (.getfield 24, 3) := by decide +kernel
theorem dX4_hasOpen_7 : decode cX4_hasOpen 7 = .ok (.if_icmp .ge 29, 3) := by decide +kernel
theorem dX4_hasOpen_10 : decode cX4_hasOpen 10 = .ok (.aload_n 0, 1) := by decide +kernel
theorem dX4_hasOpen_11 : decode cX4_hasOpen 11 = .ok (.getfield 11, 3) := by decide +kernel
theorem dX4_hasOpen_14 : decode cX4_hasOpen 14 = .ok (.iload_n 2, 1) := by decide +kernel
theorem dX4_hasOpen_15 : decode cX4_hasOpen 15 = .ok (.iaload, 1) := by decide +kernel
theorem dX4_hasOpen_16 : decode cX4_hasOpen 16 = .ok (.iload_n 1, 1) := by decide +kernel
theorem dX4_hasOpen_17 : decode cX4_hasOpen 17 = .ok (.if_icmp .ne 13, 3) := by decide +kernel
theorem dX4_hasOpen_20 : decode cX4_hasOpen 20 = .ok (.aload_n 0, 1) := by decide +kernel
theorem dX4_hasOpen_21 : decode cX4_hasOpen 21 = .ok (.iload_n 2, 1) := by decide +kernel
theorem dX4_hasOpen_22 : decode cX4_hasOpen 22 = .ok (.invokevirtual 28, 3) := by decide +kernel
theorem dX4_hasOpen_25 : decode cX4_hasOpen 25 = .ok (.ifCond .ne 5, 3) := by decide +kernel
theorem dX4_hasOpen_28 : decode cX4_hasOpen 28 = .ok (.iconst 1, 1) := by decide +kernel
theorem dX4_hasOpen_29 : decode cX4_hasOpen 29 = .ok (.ireturn, 1) := by decide +kernel
theorem dX4_hasOpen_30 : decode cX4_hasOpen 30 = .ok (.iinc 2 1, 3) := by decide +kernel
theorem dX4_hasOpen_33 : decode cX4_hasOpen 33 = .ok (.goto (-31), 3) := by decide +kernel
theorem dX4_hasOpen_36 : decode cX4_hasOpen 36 = .ok (.iconst 0, 1) := by decide +kernel
theorem dX4_hasOpen_37 : decode cX4_hasOpen 37 = .ok (.ireturn, 1) := by decide +kernel
theorem dX4_judgeOf_0 : decode cX4_judgeOf 0 = .ok (.aload_n 0, 1) := by decide +kernel
theorem dX4_judgeOf_1 : decode cX4_judgeOf 1 = .ok (.getfield 18, 3) := by decide +kernel
theorem dX4_judgeOf_4 : decode cX4_judgeOf 4 = .ok (.iload_n 1, 1) := by decide +kernel
theorem dX4_judgeOf_5 : decode cX4_judgeOf 5 = .ok (.iconst 3, 1) := by decide +kernel
theorem dX4_judgeOf_6 : decode cX4_judgeOf 6 = .ok (.imul, 1) := by decide +kernel
theorem dX4_judgeOf_7 : decode cX4_judgeOf 7 = .ok (.iload_n 2, 1) := by decide +kernel
theorem dX4_judgeOf_8 : decode cX4_judgeOf 8 = .ok (.iadd, 1) := by decide +kernel
theorem dX4_judgeOf_9 : decode cX4_judgeOf 9 = .ok (.iaload, 1) := by decide +kernel
theorem dX4_judgeOf_10 : decode cX4_judgeOf 10 = .ok (.ireturn, 1) := by decide +kernel
theorem dX4_add_0 : decode cX4_add 0 = .ok (.aload_n 0, 1) := by decide +kernel
theorem dX4_add_1 : decode cX4_add 1 = .ok (.getfield 24, 3) := by decide +kernel
theorem dX4_add_4 : decode cX4_add 4 = .ok (.istore 6, 2) := by decide +kernel
theorem dX4_add_6 : decode cX4_add 6 = .ok (.aload_n 0, 1) := by decide +kernel
theorem dX4_add_7 : decode cX4_add 7 = .ok (.getfield 11, 3) := by decide +kernel
theorem dX4_add_10 : decode cX4_add 10 = .ok (.iload 6, 2) := by decide +kernel
theorem dX4_add_12 : decode cX4_add 12 = .ok (.iload_n 1, 1) := by decide +kernel
theorem dX4_add_13 : decode cX4_add 13 = .ok (.iastore, 1) := by decide +kernel
theorem dX4_add_14 : decode cX4_add 14 = .ok (.aload_n 0, 1) := by decide +kernel
theorem dX4_add_15 : decode cX4_add 15 = .ok (.getfield 15, 3) := by decide +kernel
theorem dX4_add_18 : decode cX4_add 18 = .ok (.iload 6, 2) := by decide +kernel
theorem dX4_add_20 : decode cX4_add 20 = .ok (.iconst (-1), 1) := by decide +kernel
theorem dX4_add_21 : decode cX4_add 21 = .ok (.iastore, 1) := by decide +kernel
theorem dX4_add_22 : decode cX4_add 22 = .ok (.iconst 0, 1) := by decide +kernel
theorem dX4_add_23 : decode cX4_add 23 = .ok (.istore 7, 2) := by decide +kernel
theorem dX4_add_25 : decode cX4_add 25 = .ok (.iload 7, 2) := by decide +kernel
theorem dX4_add_27 : decode cX4_add 27 = .ok (.bipush 12, 2) := by decide +kernel
theorem dX4_add_29 : decode cX4_add 29 = .ok (.if_icmp .ge 23, 3) := by decide +kernel
theorem dX4_add_32 : decode cX4_add 32 = .ok (.aload_n 0, 1) := by decide +kernel
theorem dX4_add_33 : decode cX4_add 33 = .ok (.getfield 21, 3) := by decide +kernel
theorem dX4_add_36 : decode cX4_add 36 = .ok (.iload 6, 2) := by decide +kernel
theorem dX4_add_38 : decode cX4_add 38 = .ok (.bipush 12, 2) := by decide +kernel
theorem dX4_add_40 : decode cX4_add 40 = .ok (.imul, 1) := by decide +kernel
theorem dX4_add_41 : decode cX4_add 41 = .ok (.iload 7, 2) := by decide +kernel
theorem dX4_add_43 : decode cX4_add 43 = .ok (.iadd, 1) := by decide +kernel
theorem dX4_add_44 : decode cX4_add 44 = .ok (.iconst (-1), 1) := by decide +kernel
theorem dX4_add_45 : decode cX4_add 45 = .ok (.iastore, 1) := by decide +kernel
theorem dX4_add_46 : decode cX4_add 46 = .ok (.iinc 7 1, 3) := by decide +kernel
theorem dX4_add_49 : decode cX4_add 49 = .ok (.goto (-24), 3) := by decide +kernel
theorem dX4_add_52 : decode cX4_add 52 = .ok (.aload_n 0, 1) := by decide +kernel
theorem dX4_add_53 : decode cX4_add 53 = .ok (.iload 6, 2) := by decide +kernel
theorem dX4_add_55 : decode cX4_add 55 = .ok (.aload_n 2, 1) := by decide +kernel
theorem dX4_add_56 : decode cX4_add 56 = .ok (.iload_n 3, 1) := by decide +kernel
theorem dX4_add_57 : decode cX4_add 57 = .ok (.lload 4, 2) := by decide +kernel
theorem dX4_add_59 : decode cX4_add 59 = .ok (.invokevirtual 36, 3) := by decide +kernel
theorem dX4_add_62 : decode cX4_add 62 = .ok (.aload_n 0, 1) := by decide +kernel
theorem dX4_add_63 : decode cX4_add 63 = .ok (.dup, 1) := by decide +kernel
theorem dX4_add_64 : decode cX4_add 64 = .ok (.getfield 24, 3) := by decide +kernel
theorem dX4_add_67 : decode cX4_add 67 = .ok (.iconst 1, 1) := by decide +kernel
theorem dX4_add_68 : decode cX4_add 68 = .ok (.iadd, 1) := by decide +kernel
theorem dX4_add_69 : decode cX4_add 69 = .ok (.putfield 24, 3) := by decide +kernel
theorem dX4_add_72 : decode cX4_add 72 = .ok (.iload 6, 2) := by decide +kernel
theorem dX4_add_74 : decode cX4_add 74 = .ok (.ireturn, 1) := by decide +kernel
theorem dX4_drawJudges_0 : decode cX4_drawJudges 0 = .ok (.lload 4, 2) := by decide +kernel
theorem dX4_drawJudges_2 : decode cX4_drawJudges 2 = .ok (.lstore 6, 2) := by decide +kernel
theorem dX4_drawJudges_4 : decode cX4_drawJudges 4 = .ok (.iload_n 3, 1) := by decide +kernel
theorem dX4_drawJudges_5 : decode cX4_drawJudges 5 = .ok (.istore 8, 2) := by decide +kernel
theorem dX4_drawJudges_7 : decode cX4_drawJudges 7 = .ok (.iconst 0, 1) := by decide +kernel
theorem dX4_drawJudges_8 : decode cX4_drawJudges 8 = .ok (.istore 9, 2) := by decide +kernel
theorem dX4_drawJudges_10 : decode cX4_drawJudges 10 = .ok (.iload 9, 2) := by decide +kernel
theorem dX4_drawJudges_12 : decode cX4_drawJudges 12 = .ok (.iconst 3, 1) := by decide +kernel
theorem dX4_drawJudges_13 : decode cX4_drawJudges 13 = .ok (.if_icmp .ge 83, 3) := by decide +kernel
theorem dX4_drawJudges_16 : decode cX4_drawJudges 16 = .ok (.iload 8, 2) := by decide +kernel
theorem dX4_drawJudges_18 : decode cX4_drawJudges 18 = .ok (.ifCond .le 78, 3) := by decide +kernel
theorem dX4_drawJudges_21 : decode cX4_drawJudges 21 = .ok (.lload 6, 2) := by decide +kernel
theorem dX4_drawJudges_23 : decode cX4_drawJudges 23 = .ok (.ldc2_w 40, 3) := by decide +kernel
theorem dX4_drawJudges_26 : decode cX4_drawJudges 26 = .ok (.lmul, 1) := by decide +kernel
theorem dX4_drawJudges_27 : decode cX4_drawJudges 27 = .ok (.ldc2_w 42, 3) := by decide +kernel
theorem dX4_drawJudges_30 : decode cX4_drawJudges 30 = .ok (.ladd, 1) := by decide +kernel
theorem dX4_drawJudges_31 : decode cX4_drawJudges 31 = .ok (.lstore 6, 2) := by decide +kernel
theorem dX4_drawJudges_33 : decode cX4_drawJudges 33 = .ok (.lload 6, 2) := by decide +kernel
theorem dX4_drawJudges_35 : decode cX4_drawJudges 35 = .ok (.bipush 33, 2) := by decide +kernel
theorem dX4_drawJudges_37 : decode cX4_drawJudges 37 = .ok (.lushr, 1) := by decide +kernel
theorem dX4_drawJudges_38 : decode cX4_drawJudges 38 = .ok (.iload 8, 2) := by decide +kernel
theorem dX4_drawJudges_40 : decode cX4_drawJudges 40 = .ok (.i2l, 1) := by decide +kernel
theorem dX4_drawJudges_41 : decode cX4_drawJudges 41 = .ok (.lrem, 1) := by decide +kernel
theorem dX4_drawJudges_42 : decode cX4_drawJudges 42 = .ok (.l2i, 1) := by decide +kernel
theorem dX4_drawJudges_43 : decode cX4_drawJudges 43 = .ok (.istore 10, 2) := by decide +kernel
theorem dX4_drawJudges_45 : decode cX4_drawJudges 45 = .ok (.aload_n 0, 1) := by decide +kernel
theorem dX4_drawJudges_46 : decode cX4_drawJudges 46 = .ok (.getfield 18, 3) := by decide +kernel
theorem dX4_drawJudges_49 : decode cX4_drawJudges 49 = .ok (.iload_n 1, 1) := by decide +kernel
theorem dX4_drawJudges_50 : decode cX4_drawJudges 50 = .ok (.iconst 3, 1) := by decide +kernel
theorem dX4_drawJudges_51 : decode cX4_drawJudges 51 = .ok (.imul, 1) := by decide +kernel
theorem dX4_drawJudges_52 : decode cX4_drawJudges 52 = .ok (.iload 9, 2) := by decide +kernel
theorem dX4_drawJudges_54 : decode cX4_drawJudges 54 = .ok (.iadd, 1) := by decide +kernel
theorem dX4_drawJudges_55 : decode cX4_drawJudges 55 = .ok (.aload_n 2, 1) := by decide +kernel
theorem dX4_drawJudges_56 : decode cX4_drawJudges 56 = .ok (.iload 10, 2) := by decide +kernel
theorem dX4_drawJudges_58 : decode cX4_drawJudges 58 = .ok (.iaload, 1) := by decide +kernel
theorem dX4_drawJudges_59 : decode cX4_drawJudges 59 = .ok (.iastore, 1) := by decide +kernel
theorem dX4_drawJudges_60 : decode cX4_drawJudges 60 = .ok (.iinc 8 (-1), 3) := by decide +kernel
theorem dX4_drawJudges_63 : decode cX4_drawJudges 63 = .ok (.iload 10, 2) := by decide +kernel
theorem dX4_drawJudges_65 : decode cX4_drawJudges 65 = .ok (.istore 11, 2) := by decide +kernel
theorem dX4_drawJudges_67 : decode cX4_drawJudges 67 = .ok (.iload 11, 2) := by decide +kernel
theorem dX4_drawJudges_69 : decode cX4_drawJudges 69 = .ok (.iload 8, 2) := by decide +kernel
theorem dX4_drawJudges_71 : decode cX4_drawJudges 71 = .ok (.if_icmp .ge 19, 3) := by decide +kernel
theorem dX4_drawJudges_74 : decode cX4_drawJudges 74 = .ok (.aload_n 2, 1) := by decide +kernel
theorem dX4_drawJudges_75 : decode cX4_drawJudges 75 = .ok (.iload 11, 2) := by decide +kernel
theorem dX4_drawJudges_77 : decode cX4_drawJudges 77 = .ok (.aload_n 2, 1) := by decide +kernel
theorem dX4_drawJudges_78 : decode cX4_drawJudges 78 = .ok (.iload 11, 2) := by decide +kernel
theorem dX4_drawJudges_80 : decode cX4_drawJudges 80 = .ok (.iconst 1, 1) := by decide +kernel
theorem dX4_drawJudges_81 : decode cX4_drawJudges 81 = .ok (.iadd, 1) := by decide +kernel
theorem dX4_drawJudges_82 : decode cX4_drawJudges 82 = .ok (.iaload, 1) := by decide +kernel
theorem dX4_drawJudges_83 : decode cX4_drawJudges 83 = .ok (.iastore, 1) := by decide +kernel
theorem dX4_drawJudges_84 : decode cX4_drawJudges 84 = .ok (.iinc 11 1, 3) := by decide +kernel
theorem dX4_drawJudges_87 : decode cX4_drawJudges 87 = .ok (.goto (-20), 3) := by decide +kernel
theorem dX4_drawJudges_90 : decode cX4_drawJudges 90 = .ok (.iinc 9 1, 3) := by decide +kernel
theorem dX4_drawJudges_93 : decode cX4_drawJudges 93 = .ok (.goto (-83), 3) := by decide +kernel
theorem dX4_drawJudges_96 : decode cX4_drawJudges 96 = .ok (.return_, 1) := by decide +kernel
theorem dX4_setPoints_0 : decode cX4_setPoints 0 = .ok (.aload_n 0, 1) := by decide +kernel
theorem dX4_setPoints_1 : decode cX4_setPoints 1 = .ok (.getfield 21, 3) := by decide +kernel
theorem dX4_setPoints_4 : decode cX4_setPoints 4 = .ok (.iload_n 1, 1) := by decide +kernel
theorem dX4_setPoints_5 : decode cX4_setPoints 5 = .ok (.bipush 12, 2) := by decide +kernel
theorem dX4_setPoints_7 : decode cX4_setPoints 7 = .ok (.imul, 1) := by decide +kernel
theorem dX4_setPoints_8 : decode cX4_setPoints 8 = .ok (.iload_n 2, 1) := by decide +kernel
theorem dX4_setPoints_9 : decode cX4_setPoints 9 = .ok (.iconst 4, 1) := by decide +kernel
theorem dX4_setPoints_10 : decode cX4_setPoints 10 = .ok (.imul, 1) := by decide +kernel
theorem dX4_setPoints_11 : decode cX4_setPoints 11 = .ok (.iadd, 1) := by decide +kernel
theorem dX4_setPoints_12 : decode cX4_setPoints 12 = .ok (.iload_n 3, 1) := by decide +kernel
theorem dX4_setPoints_13 : decode cX4_setPoints 13 = .ok (.iadd, 1) := by decide +kernel
theorem dX4_setPoints_14 : decode cX4_setPoints 14 = .ok (.iload 4, 2) := by decide +kernel
theorem dX4_setPoints_16 : decode cX4_setPoints 16 = .ok (.iastore, 1) := by decide +kernel
theorem dX4_setPoints_17 : decode cX4_setPoints 17 = .ok (.aload_n 0, 1) := by decide +kernel
theorem dX4_setPoints_18 : decode cX4_setPoints 18 = .ok (.iload_n 1, 1) := by decide +kernel
theorem dX4_setPoints_19 : decode cX4_setPoints 19 = .ok (.invokevirtual 44, 3) := by decide +kernel
theorem dX4_setPoints_22 : decode cX4_setPoints 22 = .ok (.ifCond .eq 11, 3) := by decide +kernel
theorem dX4_setPoints_25 : decode cX4_setPoints 25 = .ok (.aload_n 0, 1) := by decide +kernel
theorem dX4_setPoints_26 : decode cX4_setPoints 26 = .ok (.getfield 15, 3) := by decide +kernel
theorem dX4_setPoints_29 : decode cX4_setPoints 29 = .ok (.iload_n 1, 1) := by decide +kernel
theorem dX4_setPoints_30 : decode cX4_setPoints 30 = .ok (.iload 5, 2) := by decide +kernel
theorem dX4_setPoints_32 : decode cX4_setPoints 32 = .ok (.iastore, 1) := by decide +kernel
theorem dX4_setPoints_33 : decode cX4_setPoints 33 = .ok (.return_, 1) := by decide +kernel
theorem dX4_allGiven_0 : decode cX4_allGiven 0 = .ok (.iconst 0, 1) := by decide +kernel
theorem dX4_allGiven_1 : decode cX4_allGiven 1 = .ok (.istore_n 2, 1) := by decide +kernel
theorem dX4_allGiven_2 : decode cX4_allGiven 2 = .ok (.iload_n 2, 1) := by decide +kernel
theorem dX4_allGiven_3 : decode cX4_allGiven 3 = .ok (.bipush 12, 2) := by decide +kernel
theorem dX4_allGiven_5 : decode cX4_allGiven 5 = .ok (.if_icmp .ge 26, 3) := by decide +kernel
theorem dX4_allGiven_8 : decode cX4_allGiven 8 = .ok (.aload_n 0, 1) := by decide +kernel
theorem dX4_allGiven_9 : decode cX4_allGiven 9 = .ok (.getfield 21, 3) := by decide +kernel
theorem dX4_allGiven_12 : decode cX4_allGiven 12 = .ok (.iload_n 1, 1) := by decide +kernel
theorem dX4_allGiven_13 : decode cX4_allGiven 13 = .ok (.bipush 12, 2) := by decide +kernel
theorem dX4_allGiven_15 : decode cX4_allGiven 15 = .ok (.imul, 1) := by decide +kernel
theorem dX4_allGiven_16 : decode cX4_allGiven 16 = .ok (.iload_n 2, 1) := by decide +kernel
theorem dX4_allGiven_17 : decode cX4_allGiven 17 = .ok (.iadd, 1) := by decide +kernel
theorem dX4_allGiven_18 : decode cX4_allGiven 18 = .ok (.iaload, 1) := by decide +kernel
theorem dX4_allGiven_19 : decode cX4_allGiven 19 = .ok (.iconst (-1), 1) := by decide +kernel
theorem dX4_allGiven_20 : decode cX4_allGiven 20 = .ok (.if_icmp .ne 5, 3) := by decide +kernel
theorem dX4_allGiven_23 : decode cX4_allGiven 23 = .ok (.iconst 0, 1) := by decide +kernel
theorem dX4_allGiven_24 : decode cX4_allGiven 24 = .ok (.ireturn, 1) := by decide +kernel
theorem dX4_allGiven_25 : decode cX4_allGiven 25 = .ok (.iinc 2 1, 3) := by decide +kernel
theorem dX4_allGiven_28 : decode cX4_allGiven 28 = .ok (.goto (-26), 3) := by decide +kernel
theorem dX4_allGiven_31 : decode cX4_allGiven 31 = .ok (.iconst 1, 1) := by decide +kernel
theorem dX4_allGiven_32 : decode cX4_allGiven 32 = .ok (.ireturn, 1) := by decide +kernel
theorem dX4_markOf_0 : decode cX4_markOf 0 = .ok (.iconst 0, 1) := by decide +kernel
theorem dX4_markOf_1 : decode cX4_markOf 1 = .ok (.istore_n 2, 1) := by decide +kernel
theorem dX4_markOf_2 : decode cX4_markOf 2 = .ok (.iconst 0, 1) := by decide +kernel
theorem dX4_markOf_3 : decode cX4_markOf 3 = .ok (.istore_n 3, 1) := by decide +kernel
theorem dX4_markOf_4 : decode cX4_markOf 4 = .ok (.iload_n 3, 1) := by decide +kernel
theorem dX4_markOf_5 : decode cX4_markOf 5 = .ok (.iconst 4, 1) := by decide +kernel
theorem dX4_markOf_6 : decode cX4_markOf 6 = .ok (.if_icmp .ge 18, 3) := by decide +kernel
theorem dX4_markOf_9 : decode cX4_markOf 9 = .ok (.iload_n 2, 1) := by decide +kernel
theorem dX4_markOf_10 : decode cX4_markOf 10 = .ok (.aload_n 0, 1) := by decide +kernel
theorem dX4_markOf_11 : decode cX4_markOf 11 = .ok (.iload_n 1, 1) := by decide +kernel
theorem dX4_markOf_12 : decode cX4_markOf 12 = .ok (.iload_n 3, 1) := by decide +kernel
theorem dX4_markOf_13 : decode cX4_markOf 13 = .ok (.invokevirtual 47, 3) := by decide +kernel
theorem dX4_markOf_16 : decode cX4_markOf 16 = .ok (.iadd, 1) := by decide +kernel
theorem dX4_markOf_17 : decode cX4_markOf 17 = .ok (.istore_n 2, 1) := by decide +kernel
theorem dX4_markOf_18 : decode cX4_markOf 18 = .ok (.iinc 3 1, 3) := by decide +kernel
theorem dX4_markOf_21 : decode cX4_markOf 21 = .ok (.goto (-17), 3) := by decide +kernel
theorem dX4_markOf_24 : decode cX4_markOf 24 = .ok (.iload_n 2, 1) := by decide +kernel
theorem dX4_markOf_25 : decode cX4_markOf 25 = .ok (.bipush 12, 2) := by decide +kernel
theorem dX4_markOf_27 : decode cX4_markOf 27 = .ok (.idiv, 1) := by decide +kernel
theorem dX4_markOf_28 : decode cX4_markOf 28 = .ok (.ireturn, 1) := by decide +kernel
theorem dX4_refusedPart_0 : decode cX4_refusedPart 0 = .ok (.iconst 0, 1) := by decide +kernel
theorem dX4_refusedPart_1 : decode cX4_refusedPart 1 = .ok (.istore_n 2, 1) := by decide +kernel
theorem dX4_refusedPart_2 : decode cX4_refusedPart 2 = .ok (.iload_n 2, 1) := by decide +kernel
theorem dX4_refusedPart_3 : decode cX4_refusedPart 3 = .ok (.iconst 4, 1) := by decide +kernel
theorem dX4_refusedPart_4 : decode cX4_refusedPart 4 = .ok (.if_icmp .ge 22, 3) := by decide +kernel
theorem dX4_refusedPart_7 : decode cX4_refusedPart 7 = .ok (.aload_n 0, 1) := by decide +kernel
theorem dX4_refusedPart_8 : decode cX4_refusedPart 8 = .ok (.iload_n 1, 1) := by decide +kernel
theorem dX4_refusedPart_9 : decode cX4_refusedPart 9 = .ok (.iload_n 2, 1) := by decide +kernel
theorem dX4_refusedPart_10 : decode cX4_refusedPart 10 = .ok (.invokevirtual 47, 3) := by decide +kernel
theorem dX4_refusedPart_13 : decode cX4_refusedPart 13 = .ok (.bipush 15, 2) := by decide +kernel
theorem dX4_refusedPart_15 : decode cX4_refusedPart 15 = .ok (.if_icmp .ge 5, 3) := by decide +kernel
theorem dX4_refusedPart_18 : decode cX4_refusedPart 18 = .ok (.iload_n 2, 1) := by decide +kernel
theorem dX4_refusedPart_19 : decode cX4_refusedPart 19 = .ok (.ireturn, 1) := by decide +kernel
theorem dX4_refusedPart_20 : decode cX4_refusedPart 20 = .ok (.iinc 2 1, 3) := by decide +kernel
theorem dX4_refusedPart_23 : decode cX4_refusedPart 23 = .ok (.goto (-21), 3) := by decide +kernel
theorem dX4_refusedPart_26 : decode cX4_refusedPart 26 = .ok (.iconst (-1), 1) := by decide +kernel
theorem dX4_refusedPart_27 : decode cX4_refusedPart 27 = .ok (.ireturn, 1) := by decide +kernel
theorem dX4_sumOfPart_0 : decode cX4_sumOfPart 0 = .ok (.iconst 0, 1) := by decide +kernel
theorem dX4_sumOfPart_1 : decode cX4_sumOfPart 1 = .ok (.istore_n 3, 1) := by decide +kernel
theorem dX4_sumOfPart_2 : decode cX4_sumOfPart 2 = .ok (.iconst 0, 1) := by decide +kernel
theorem dX4_sumOfPart_3 : decode cX4_sumOfPart 3 = .ok (.istore 4, 2) := by decide +kernel
theorem dX4_sumOfPart_5 : decode cX4_sumOfPart 5 = .ok (.iload 4, 2) := by decide +kernel
theorem dX4_sumOfPart_7 : decode cX4_sumOfPart 7 = .ok (.iconst 3, 1) := by decide +kernel
theorem dX4_sumOfPart_8 : decode cX4_sumOfPart 8 = .ok (.if_icmp .ge 28, 3) := by decide +kernel
theorem dX4_sumOfPart_11 : decode cX4_sumOfPart 11 = .ok (.iload_n 3, 1) := by decide +kernel
theorem dX4_sumOfPart_12 : decode cX4_sumOfPart 12 = .ok (.aload_n 0, 1) := by decide +kernel
theorem dX4_sumOfPart_13 : decode cX4_sumOfPart 13 = .ok (.getfield 21, 3) := by decide +kernel
theorem dX4_sumOfPart_16 : decode cX4_sumOfPart 16 = .ok (.iload_n 1, 1) := by decide +kernel
theorem dX4_sumOfPart_17 : decode cX4_sumOfPart 17 = .ok (.bipush 12, 2) := by decide +kernel
theorem dX4_sumOfPart_19 : decode cX4_sumOfPart 19 = .ok (.imul, 1) := by decide +kernel
theorem dX4_sumOfPart_20 : decode cX4_sumOfPart 20 = .ok (.iload 4, 2) := by decide +kernel
theorem dX4_sumOfPart_22 : decode cX4_sumOfPart 22 = .ok (.iconst 4, 1) := by decide +kernel
theorem dX4_sumOfPart_23 : decode cX4_sumOfPart 23 = .ok (.imul, 1) := by decide +kernel
theorem dX4_sumOfPart_24 : decode cX4_sumOfPart 24 = .ok (.iadd, 1) := by decide +kernel
theorem dX4_sumOfPart_25 : decode cX4_sumOfPart 25 = .ok (.iload_n 2, 1) := by decide +kernel
theorem dX4_sumOfPart_26 : decode cX4_sumOfPart 26 = .ok (.iadd, 1) := by decide +kernel
theorem dX4_sumOfPart_27 : decode cX4_sumOfPart 27 = .ok (.iaload, 1) := by decide +kernel
theorem dX4_sumOfPart_28 : decode cX4_sumOfPart 28 = .ok (.iadd, 1) := by decide +kernel
theorem dX4_sumOfPart_29 : decode cX4_sumOfPart 29 = .ok (.istore_n 3, 1) := by decide +kernel
theorem dX4_sumOfPart_30 : decode cX4_sumOfPart 30 = .ok (.iinc 4 1, 3) := by decide +kernel
theorem dX4_sumOfPart_33 : decode cX4_sumOfPart 33 = .ok (.goto (-28), 3) := by decide +kernel
theorem dX4_sumOfPart_36 : decode cX4_sumOfPart 36 = .ok (.iload_n 3, 1) := by decide +kernel
theorem dX4_sumOfPart_37 : decode cX4_sumOfPart 37 = .ok (.ireturn, 1) := by decide +kernel
theorem dX4_latestMark_0 : decode cX4_latestMark 0 = .ok (.iconst (-1), 1) := by decide +kernel
theorem dX4_latestMark_1 : decode cX4_latestMark 1 = .ok (.istore_n 3, 1) := by decide +kernel
theorem dX4_latestMark_2 : decode cX4_latestMark 2 = .ok (.iconst 0, 1) := by decide +kernel
theorem dX4_latestMark_3 : decode cX4_latestMark 3 = .ok (.istore 4, 2) := by decide +kernel
theorem dX4_latestMark_5 : decode cX4_latestMark 5 = .ok (.iload 4, 2) := by decide +kernel
theorem dX4_latestMark_7 : decode cX4_latestMark 7 = .ok (.aload_n 0, 1) := by decide +kernel
theorem dX4_latestMark_8 : decode cX4_latestMark 8 = .ok (.getfield 24, 3) := by decide +kernel
theorem dX4_latestMark_11 : decode cX4_latestMark 11 = .ok (.if_icmp .ge 76, 3) := by decide +kernel
theorem dX4_latestMark_14 : decode cX4_latestMark 14 = .ok (.aload_n 0, 1) := by decide +kernel
theorem dX4_latestMark_15 : decode cX4_latestMark 15 = .ok (.getfield 11, 3) := by decide +kernel
theorem dX4_latestMark_18 : decode cX4_latestMark 18 = .ok (.iload 4, 2) := by decide +kernel
theorem dX4_latestMark_20 : decode cX4_latestMark 20 = .ok (.iaload, 1) := by decide +kernel
theorem dX4_latestMark_21 : decode cX4_latestMark 21 = .ok (.iload_n 1, 1) := by decide +kernel
theorem dX4_latestMark_22 : decode cX4_latestMark 22 = .ok (.if_icmp .ne 27, 3) := by decide +kernel
theorem dX4_latestMark_25 : decode cX4_latestMark 25 = .ok (.aload_n 0, 1) := by decide +kernel
theorem dX4_latestMark_26 : decode cX4_latestMark 26 = .ok (.iload 4, 2) := by decide +kernel
theorem dX4_latestMark_28 : decode cX4_latestMark 28 = .ok (.invokevirtual 51, 3) := by decide +kernel
theorem dX4_latestMark_31 : decode cX4_latestMark 31 = .ok (.ifCond .eq 18, 3) := by decide +kernel
theorem dX4_latestMark_34 : decode cX4_latestMark 34 = .ok (.aload_n 0, 1) := by decide +kernel
theorem dX4_latestMark_35 : decode cX4_latestMark 35 = .ok (.getfield 15, 3) := by decide +kernel
theorem dX4_latestMark_38 : decode cX4_latestMark 38 = .ok (.iload 4, 2) := by decide +kernel
theorem dX4_latestMark_40 : decode cX4_latestMark 40 = .ok (.iaload, 1) := by decide +kernel
theorem dX4_latestMark_41 : decode cX4_latestMark 41 = .ok (.iload_n 2, 1) := by decide +kernel
theorem dX4_latestMark_42 : decode cX4_latestMark 42 = .ok (.if_icmp .gt 7, 3) := by decide +kernel
theorem dX4_latestMark_45 : decode cX4_latestMark 45 = .ok (.iconst 1, 1) := by decide +kernel
theorem dX4_latestMark_46 : decode cX4_latestMark 46 = .ok (.goto 4, 3) := by decide +kernel
theorem dX4_latestMark_49 : decode cX4_latestMark 49 = .ok (.iconst 0, 1) := by decide +kernel
theorem dX4_latestMark_50 : decode cX4_latestMark 50 = .ok (.istore 5, 2) := by decide +kernel
theorem dX4_latestMark_52 : decode cX4_latestMark 52 = .ok (.iload 5, 2) := by decide +kernel
theorem dX4_latestMark_54 : decode cX4_latestMark 54 = .ok (.ifCond .eq 27, 3) := by decide +kernel
theorem dX4_latestMark_57 : decode cX4_latestMark 57 = .ok (.iload_n 3, 1) := by decide +kernel
theorem dX4_latestMark_58 : decode cX4_latestMark 58 = .ok (.iconst (-1), 1) := by decide +kernel
theorem dX4_latestMark_59 : decode cX4_latestMark 59 = .ok (.if_icmp .eq 19, 3) := by decide +kernel
theorem dX4_latestMark_62 : decode cX4_latestMark 62 = .ok (.aload_n 0, 1) := by decide +kernel
theorem dX4_latestMark_63 : decode cX4_latestMark 63 = .ok (.getfield 15, 3) := by decide +kernel
theorem dX4_latestMark_66 : decode cX4_latestMark 66 = .ok (.iload 4, 2) := by decide +kernel
theorem dX4_latestMark_68 : decode cX4_latestMark 68 = .ok (.iaload, 1) := by decide +kernel
theorem dX4_latestMark_69 : decode cX4_latestMark 69 = .ok (.aload_n 0, 1) := by decide +kernel
theorem dX4_latestMark_70 : decode cX4_latestMark 70 = .ok (.getfield 15, 3) := by decide +kernel
theorem dX4_latestMark_73 : decode cX4_latestMark 73 = .ok (.iload_n 3, 1) := by decide +kernel
theorem dX4_latestMark_74 : decode cX4_latestMark 74 = .ok (.iaload, 1) := by decide +kernel
theorem dX4_latestMark_75 : decode cX4_latestMark 75 = .ok (.if_icmp .lt 6, 3) := by decide +kernel
theorem dX4_latestMark_78 : decode cX4_latestMark 78 = .ok (.iload 4, 2) := by decide +kernel
theorem dX4_latestMark_80 : decode cX4_latestMark 80 = .ok (.istore_n 3, 1) := by decide +kernel
theorem dX4_latestMark_81 : decode cX4_latestMark 81 = .ok (.iinc 4 1, 3) := by decide +kernel
theorem dX4_latestMark_84 : decode cX4_latestMark 84 = .ok (.goto (-79), 3) := by decide +kernel
theorem dX4_latestMark_87 : decode cX4_latestMark 87 = .ok (.iload_n 3, 1) := by decide +kernel
theorem dX4_latestMark_88 : decode cX4_latestMark 88 = .ok (.iconst (-1), 1) := by decide +kernel
theorem dX4_latestMark_89 : decode cX4_latestMark 89 = .ok (.if_icmp .ne 7, 3) := by decide +kernel
theorem dX4_latestMark_92 : decode cX4_latestMark 92 = .ok (.iconst 0, 1) := by decide +kernel
theorem dX4_latestMark_93 : decode cX4_latestMark 93 = .ok (.goto 8, 3) := by decide +kernel
theorem dX4_latestMark_96 : decode cX4_latestMark 96 = .ok (.aload_n 0, 1) := by decide +kernel
theorem dX4_latestMark_97 : decode cX4_latestMark 97 = .ok (.iload_n 3, 1) := by decide +kernel
theorem dX4_latestMark_98 : decode cX4_latestMark 98 = .ok (.invokevirtual 54, 3) := by decide +kernel
theorem dX4_latestMark_101 : decode cX4_latestMark 101 = .ok (.ireturn, 1) := by decide +kernel
theorem dX5_init_0 : decode cX5_init 0 = .ok (.aload_n 0, 1) := by decide +kernel
theorem dX5_init_1 : decode cX5_init 1 = .ok (.invokespecial 3, 3) := by decide +kernel
theorem dX5_init_4 : decode cX5_init 4 = .ok (.aload_n 0, 1) := by decide +kernel
theorem dX5_init_5 : decode cX5_init 5 = .ok (.iconst 0, 1) := by decide +kernel
theorem dX5_init_6 : decode cX5_init 6 = .ok (.putfield 11, 3) := by decide +kernel
theorem dX5_init_9 : decode cX5_init 9 = .ok (.aload_n 0, 1) := by decide +kernel
theorem dX5_init_10 : decode cX5_init 10 = .ok (.iconst 0, 1) := by decide +kernel
theorem dX5_init_11 : decode cX5_init 11 = .ok (.putfield 15, 3) := by decide +kernel
theorem dX5_init_14 : decode cX5_init 14 = .ok (.aload_n 0, 1) := by decide +kernel
theorem dX5_init_15 : decode cX5_init 15 = .ok (.iconst 0, 1) := by decide +kernel
theorem dX5_init_16 : decode cX5_init 16 = .ok (.putfield 18, 3) := by decide +kernel
theorem dX5_init_19 : decode cX5_init 19 = .ok (.return_, 1) := by decide +kernel
theorem dX5_firstFault_0 : decode cX5_firstFault 0 = .ok (.aload_n 0, 1) := by decide +kernel
theorem dX5_firstFault_1 : decode cX5_firstFault 1 = .ok (.iconst 0, 1) := by decide +kernel
theorem dX5_firstFault_2 : decode cX5_firstFault 2 = .ok (.putfield 11, 3) := by decide +kernel
theorem dX5_firstFault_5 : decode cX5_firstFault 5 = .ok (.aload_n 0, 1) := by decide +kernel
theorem dX5_firstFault_6 : decode cX5_firstFault 6 = .ok (.iconst 0, 1) := by decide +kernel
theorem dX5_firstFault_7 : decode cX5_firstFault 7 = .ok (.putfield 15, 3) := by decide +kernel
theorem dX5_firstFault_10 : decode cX5_firstFault 10 = .ok (.aload_n 0, 1) := by decide +kernel
theorem dX5_firstFault_11 : decode cX5_firstFault 11 = .ok (.iconst 0, 1) := by decide +kernel
theorem dX5_firstFault_12 : decode cX5_firstFault 12 = .ok (.putfield 18, 3) := by decide +kernel
theorem dX5_firstFault_15 : decode cX5_firstFault 15 = .ok (.iconst 0, 1) := by decide +kernel
theorem dX5_firstFault_16 : decode cX5_firstFault 16 = .ok (.istore_n 3, 1) := by decide +kernel
theorem dX5_firstFault_17 : decode cX5_firstFault 17 = .ok (.iload_n 3, 1) := by decide +kernel
theorem dX5_firstFault_18 : decode cX5_firstFault 18 = .ok (.iload_n 2, 1) := by decide +kernel
theorem dX5_firstFault_19 : decode cX5_firstFault 19 = .ok (.if_icmp .ge 27, 3) := by decide +kernel
theorem dX5_firstFault_22 : decode cX5_firstFault 22 = .ok (.iload_n 3, 1) := by decide +kernel
theorem dX5_firstFault_23 : decode cX5_firstFault 23 = .ok (.aload_n 1, 1) := by decide +kernel
theorem dX5_firstFault_24 : decode cX5_firstFault 24 = .ok (.arraylength, 1) := by decide +kernel
theorem dX5_firstFault_25 : decode cX5_firstFault 25 = .ok (.if_icmp .ge 21, 3) := by decide +kernel
theorem dX5_firstFault_28 : decode cX5_firstFault 28 = .ok (.aload_n 0, 1) := by decide +kernel
theorem dX5_firstFault_29 : decode cX5_firstFault 29 = .ok (.aload_n 1, 1) := by decide +kernel
theorem dX5_firstFault_30 : decode cX5_firstFault 30 = .ok (.iload_n 3, 1) := by decide +kernel
theorem dX5_firstFault_31 : decode cX5_firstFault 31 = .ok (.caload, 1) := by decide +kernel
theorem dX5_firstFault_32 : decode cX5_firstFault 32 = .ok (.invokevirtual 21, 3) := by decide +kernel
theorem dX5_firstFault_35 : decode cX5_firstFault 35 = .ok (.ifCond .ne 5, 3) := by decide +kernel
theorem dX5_firstFault_38 : decode cX5_firstFault 38 = .ok (.iload_n 3, 1) := by decide +kernel
theorem dX5_firstFault_39 : decode cX5_firstFault 39 = .ok (.ireturn, 1) := by decide +kernel
theorem dX5_firstFault_40 : decode cX5_firstFault 40 = .ok (.iinc 3 1, 3) := by decide +kernel
theorem dX5_firstFault_43 : decode cX5_firstFault 43 = .ok (.goto (-26), 3) := by decide +kernel
theorem dX5_firstFault_46 : decode cX5_firstFault 46 = .ok (.aload_n 0, 1) := by decide +kernel
theorem dX5_firstFault_47 : decode cX5_firstFault 47 = .ok (.invokevirtual 25, 3) := by decide +kernel
theorem dX5_firstFault_50 : decode cX5_firstFault 50 = .ok (.ifCond .eq 7, 3) := by decide +kernel
theorem dX5_firstFault_53 : decode cX5_firstFault 53 = .ok (.iconst (-1), 1) := by decide +kernel
theorem dX5_firstFault_54 : decode cX5_firstFault 54 = .ok (.goto 4, 3) := by decide +kernel
theorem dX5_firstFault_57 : decode cX5_firstFault 57 = .ok (.iload_n 2, 1) := by decide +kernel
theorem dX5_firstFault_58 : decode cX5_firstFault 58 = .ok (.ireturn, 1) := by decide +kernel
theorem dX5_isWhole_0 : decode cX5_isWhole 0 = .ok (.aload_n 0, 1) := by decide +kernel
theorem dX5_isWhole_1 : decode cX5_isWhole 1 = .ok (.getfield 15, 3) := by decide +kernel
theorem dX5_isWhole_4 : decode cX5_isWhole 4 = .ok (.ifCond .ne 23, 3) := by decide +kernel
theorem dX5_isWhole_7 : decode cX5_isWhole 7 = .ok (.aload_n 0, 1) := by decide +kernel
theorem dX5_isWhole_8 : decode cX5_isWhole 8 = .ok (.getfield 11, 3) := by decide +kernel
theorem dX5_isWhole_11 : decode cX5_isWhole 11 = .ok (.iconst 3, 1) := by decide +kernel
theorem dX5_isWhole_12 : decode cX5_isWhole 12 = .ok (.if_icmp .eq 11, 3) := by decide +kernel
theorem dX5_isWhole_15 : decode cX5_isWhole 15 = .ok (.aload_n 0, 1) := by decide +kernel
theorem dX5_isWhole_16 : decode cX5_isWhole 16 = .ok (.getfield 11, 3) := by decide +kernel
theorem dX5_isWhole_19 : decode cX5_isWhole 19 = .ok (.iconst 4, 1) := by decide +kernel
theorem dX5_isWhole_20 : decode cX5_isWhole 20 = .ok (.if_icmp .ne 7, 3) := by decide +kernel
theorem dX5_isWhole_23 : decode cX5_isWhole 23 = .ok (.iconst 1, 1) := by decide +kernel
theorem dX5_isWhole_24 : decode cX5_isWhole 24 = .ok (.goto 4, 3) := by decide +kernel
theorem dX5_isWhole_27 : decode cX5_isWhole 27 = .ok (.iconst 0, 1) := by decide +kernel
theorem dX5_isWhole_28 : decode cX5_isWhole 28 = .ok (.ireturn, 1) := by decide +kernel
theorem dX5_goesOnWith_0 : decode cX5_goesOnWith 0 = .ok (.iload_n 1, 1) := by decide +kernel
theorem dX5_goesOnWith_1 : decode cX5_goesOnWith 1 = .ok (.bipush 32, 2) := by decide +kernel
theorem dX5_goesOnWith_3 : decode cX5_goesOnWith 3 = .ok (.if_icmp .ne 25, 3) := by decide +kernel
theorem dX5_goesOnWith_6 : decode cX5_goesOnWith 6 = .ok (.aload_n 0, 1) := by decide +kernel
theorem dX5_goesOnWith_7 : decode cX5_goesOnWith 7 = .ok (.aload_n 0, 1) := by decide +kernel
theorem dX5_goesOnWith_8 : decode cX5_goesOnWith 8 = .ok (.getfield 11, 3) := by decide +kernel
theorem dX5_goesOnWith_11 : decode cX5_goesOnWith 11 = .ok (.iconst 3, 1) := by decide +kernel
theorem dX5_goesOnWith_12 : decode cX5_goesOnWith 12 = .ok (.if_icmp .ne 7, 3) := by decide +kernel
theorem dX5_goesOnWith_15 : decode cX5_goesOnWith 15 = .ok (.iconst 4, 1) := by decide +kernel
theorem dX5_goesOnWith_16 : decode cX5_goesOnWith 16 = .ok (.goto 7, 3) := by decide +kernel
theorem dX5_goesOnWith_19 : decode cX5_goesOnWith 19 = .ok (.aload_n 0, 1) := by decide +kernel
theorem dX5_goesOnWith_20 : decode cX5_goesOnWith 20 = .ok (.getfield 11, 3) := by decide +kernel
theorem dX5_goesOnWith_23 : decode cX5_goesOnWith 23 = .ok (.putfield 11, 3) := by decide +kernel
theorem dX5_goesOnWith_26 : decode cX5_goesOnWith 26 = .ok (.iconst 1, 1) := by decide +kernel
theorem dX5_goesOnWith_27 : decode cX5_goesOnWith 27 = .ok (.ireturn, 1) := by decide +kernel
theorem dX5_goesOnWith_28 : decode cX5_goesOnWith 28 = .ok (.aload_n 0, 1) := by decide +kernel
theorem dX5_goesOnWith_29 : decode cX5_goesOnWith 29 = .ok (.getfield 11, 3) := by decide +kernel
theorem dX5_goesOnWith_32 : decode cX5_goesOnWith 32 = .ok (.tableswitch 121 0 3 #[32, 38, 67, 82], 32) := by decide +kernel
theorem dX5_goesOnWith_64 : decode cX5_goesOnWith 64 = .ok (.aload_n 0, 1) := by decide +kernel
theorem dX5_goesOnWith_65 : decode cX5_goesOnWith 65 = .ok (.iload_n 1, 1) := by decide +kernel
theorem dX5_goesOnWith_66 : decode cX5_goesOnWith 66 = .ok (.invokevirtual 29, 3) := by decide +kernel
theorem dX5_goesOnWith_69 : decode cX5_goesOnWith 69 = .ok (.ireturn, 1) := by decide +kernel
theorem dX5_goesOnWith_70 : decode cX5_goesOnWith 70 = .ok (.aload_n 0, 1) := by decide +kernel
theorem dX5_goesOnWith_71 : decode cX5_goesOnWith 71 = .ok (.iconst 2, 1) := by decide +kernel
theorem dX5_goesOnWith_72 : decode cX5_goesOnWith 72 = .ok (.putfield 11, 3) := by decide +kernel
theorem dX5_goesOnWith_75 : decode cX5_goesOnWith 75 = .ok (.iload_n 1, 1) := by decide +kernel
theorem dX5_goesOnWith_76 : decode cX5_goesOnWith 76 = .ok (.bipush 60, 2) := by decide +kernel
theorem dX5_goesOnWith_78 : decode cX5_goesOnWith 78 = .ok (.if_icmp .eq 15, 3) := by decide +kernel
theorem dX5_goesOnWith_81 : decode cX5_goesOnWith 81 = .ok (.iload_n 1, 1) := by decide +kernel
theorem dX5_goesOnWith_82 : decode cX5_goesOnWith 82 = .ok (.bipush 62, 2) := by decide +kernel
theorem dX5_goesOnWith_84 : decode cX5_goesOnWith 84 = .ok (.if_icmp .eq 9, 3) := by decide +kernel
theorem dX5_goesOnWith_87 : decode cX5_goesOnWith 87 = .ok (.iload_n 1, 1) := by decide +kernel
theorem dX5_goesOnWith_88 : decode cX5_goesOnWith 88 = .ok (.bipush 61, 2) := by decide +kernel
theorem dX5_goesOnWith_90 : decode cX5_goesOnWith 90 = .ok (.if_icmp .ne 7, 3) := by decide +kernel
theorem dX5_goesOnWith_93 : decode cX5_goesOnWith 93 = .ok (.iconst 1, 1) := by decide +kernel
theorem dX5_goesOnWith_94 : decode cX5_goesOnWith 94 = .ok (.goto 4, 3) := by decide +kernel
theorem dX5_goesOnWith_97 : decode cX5_goesOnWith 97 = .ok (.iconst 0, 1) := by decide +kernel
theorem dX5_goesOnWith_98 : decode cX5_goesOnWith 98 = .ok (.ireturn, 1) := by decide +kernel
theorem dX5_goesOnWith_99 : decode cX5_goesOnWith 99 = .ok (.aload_n 0, 1) := by decide +kernel
theorem dX5_goesOnWith_100 : decode cX5_goesOnWith 100 = .ok (.iconst 3, 1) := by decide +kernel
theorem dX5_goesOnWith_101 : decode cX5_goesOnWith 101 = .ok (.putfield 11, 3) := by decide +kernel
theorem dX5_goesOnWith_104 : decode cX5_goesOnWith 104 = .ok (.aload_n 0, 1) := by decide +kernel
theorem dX5_goesOnWith_105 : decode cX5_goesOnWith 105 = .ok (.iconst 1, 1) := by decide +kernel
theorem dX5_goesOnWith_106 : decode cX5_goesOnWith 106 = .ok (.putfield 18, 3) := by decide +kernel
theorem dX5_goesOnWith_109 : decode cX5_goesOnWith 109 = .ok (.iload_n 1, 1) := by decide +kernel
theorem dX5_goesOnWith_110 : decode cX5_goesOnWith 110 = .ok (.invokestatic 32, 3) := by decide +kernel
theorem dX5_goesOnWith_113 : decode cX5_goesOnWith 113 = .ok (.ireturn, 1) := by decide +kernel
theorem dX5_goesOnWith_114 : decode cX5_goesOnWith 114 = .ok (.aload_n 0, 1) := by decide +kernel
theorem dX5_goesOnWith_115 : decode cX5_goesOnWith 115 = .ok (.dup, 1) := by decide +kernel
theorem dX5_goesOnWith_116 : decode cX5_goesOnWith 116 = .ok (.getfield 18, 3) := by decide +kernel
theorem dX5_goesOnWith_119 : decode cX5_goesOnWith 119 = .ok (.iconst 1, 1) := by decide +kernel
theorem dX5_goesOnWith_120 : decode cX5_goesOnWith 120 = .ok (.iadd, 1) := by decide +kernel
theorem dX5_goesOnWith_121 : decode cX5_goesOnWith 121 = .ok (.putfield 18, 3) := by decide +kernel
theorem dX5_goesOnWith_124 : decode cX5_goesOnWith 124 = .ok (.iload_n 1, 1) := by decide +kernel
theorem dX5_goesOnWith_125 : decode cX5_goesOnWith 125 = .ok (.invokestatic 32, 3) := by decide +kernel
theorem dX5_goesOnWith_128 : decode cX5_goesOnWith 128 = .ok (.ifCond .eq 19, 3) := by decide +kernel
theorem dX5_goesOnWith_131 : decode cX5_goesOnWith 131 = .ok (.aload_n 0, 1) := by decide +kernel
theorem dX5_goesOnWith_132 : decode cX5_goesOnWith 132 = .ok (.getfield 18, 3) := by decide +kernel
theorem dX5_goesOnWith_135 : decode cX5_goesOnWith 135 = .ok (.iconst 5, 1) := by decide +kernel
theorem dX5_goesOnWith_136 : decode cX5_goesOnWith 136 = .ok (.if_icmp .gt 7, 3) := by decide +kernel
theorem dX5_goesOnWith_139 : decode cX5_goesOnWith 139 = .ok (.iconst 1, 1) := by decide +kernel
theorem dX5_goesOnWith_140 : decode cX5_goesOnWith 140 = .ok (.goto 12, 3) := by decide +kernel
theorem dX5_goesOnWith_143 : decode cX5_goesOnWith 143 = .ok (.iconst 0, 1) := by decide +kernel
theorem dX5_goesOnWith_144 : decode cX5_goesOnWith 144 = .ok (.goto 8, 3) := by decide +kernel
theorem dX5_goesOnWith_147 : decode cX5_goesOnWith 147 = .ok (.aload_n 0, 1) := by decide +kernel
theorem dX5_goesOnWith_148 : decode cX5_goesOnWith 148 = .ok (.iload_n 1, 1) := by decide +kernel
theorem dX5_goesOnWith_149 : decode cX5_goesOnWith 149 = .ok (.invokevirtual 35, 3) := by decide +kernel
theorem dX5_goesOnWith_152 : decode cX5_goesOnWith 152 = .ok (.ireturn, 1) := by decide +kernel
theorem dX5_goesOnWith_153 : decode cX5_goesOnWith 153 = .ok (.aload_n 0, 1) := by decide +kernel
theorem dX5_goesOnWith_154 : decode cX5_goesOnWith 154 = .ok (.iload_n 1, 1) := by decide +kernel
theorem dX5_goesOnWith_155 : decode cX5_goesOnWith 155 = .ok (.invokevirtual 35, 3) := by decide +kernel
theorem dX5_goesOnWith_158 : decode cX5_goesOnWith 158 = .ok (.ireturn, 1) := by decide +kernel
theorem dX5_beginsUnit_0 : decode cX5_beginsUnit 0 = .ok (.iload_n 1, 1) := by decide +kernel
theorem dX5_beginsUnit_1 : decode cX5_beginsUnit 1 = .ok (.bipush 40, 2) := by decide +kernel
theorem dX5_beginsUnit_3 : decode cX5_beginsUnit 3 = .ok (.if_icmp .ne 28, 3) := by decide +kernel
theorem dX5_beginsUnit_6 : decode cX5_beginsUnit 6 = .ok (.aload_n 0, 1) := by decide +kernel
theorem dX5_beginsUnit_7 : decode cX5_beginsUnit 7 = .ok (.dup, 1) := by decide +kernel
theorem dX5_beginsUnit_8 : decode cX5_beginsUnit 8 = .ok (.getfield 15, 3) := by decide +kernel
theorem dX5_beginsUnit_11 : decode cX5_beginsUnit 11 = .ok (.iconst 1, 1) := by decide +kernel
theorem dX5_beginsUnit_12 : decode cX5_beginsUnit 12 = .ok (.iadd, 1) := by decide +kernel
theorem dX5_beginsUnit_13 : decode cX5_beginsUnit 13 = .ok (.putfield 15, 3) := by decide +kernel
theorem dX5_beginsUnit_16 : decode cX5_beginsUnit 16 = .ok (.aload_n 0, 1) := by decide +kernel
theorem dX5_beginsUnit_17 : decode cX5_beginsUnit 17 = .ok (.getfield 15, 3) := by decide +kernel
theorem dX5_beginsUnit_20 : decode cX5_beginsUnit 20 = .ok (.bipush 8, 2) := by decide +kernel
theorem dX5_beginsUnit_22 : decode cX5_beginsUnit 22 = .ok (.if_icmp .gt 7, 3) := by decide +kernel
theorem dX5_beginsUnit_25 : decode cX5_beginsUnit 25 = .ok (.iconst 1, 1) := by decide +kernel
theorem dX5_beginsUnit_26 : decode cX5_beginsUnit 26 = .ok (.goto 4, 3) := by decide +kernel
theorem dX5_beginsUnit_29 : decode cX5_beginsUnit 29 = .ok (.iconst 0, 1) := by decide +kernel
theorem dX5_beginsUnit_30 : decode cX5_beginsUnit 30 = .ok (.ireturn, 1) := by decide +kernel
theorem dX5_beginsUnit_31 : decode cX5_beginsUnit 31 = .ok (.aload_n 0, 1) := by decide +kernel
end
section
theorem dX5_beginsUnit_32 : decode cX5_beginsUnit 32 = .ok (.iconst 1, 1) := by decide +kernel
theorem dX5_beginsUnit_33 : decode cX5_beginsUnit 33 = .ok (.putfield 11, 3) := by decide +kernel
theorem dX5_beginsUnit_36 : decode cX5_beginsUnit 36 = .ok (.iload_n 1, 1) := by decide +kernel
theorem dX5_beginsUnit_37 : decode cX5_beginsUnit 37 = .ok (.invokestatic 38, 3) := by decide +kernel
theorem dX5_beginsUnit_40 : decode cX5_beginsUnit 40 = .ok (.ireturn, 1) := by decide +kernel
theorem dX5_followsUnit_0 : decode cX5_followsUnit 0 = .ok (.iload_n 1, 1) := by decide +kernel
theorem dX5_followsUnit_1 : decode cX5_followsUnit 1 = .ok (.bipush 41, 2) := by decide +kernel
theorem dX5_followsUnit_3 : decode cX5_followsUnit 3 = .ok (.if_icmp .ne 31, 3) := by decide +kernel
theorem dX5_followsUnit_6 : decode cX5_followsUnit 6 = .ok (.aload_n 0, 1) := by decide +kernel
theorem dX5_followsUnit_7 : decode cX5_followsUnit 7 = .ok (.iconst 4, 1) := by decide +kernel
theorem dX5_followsUnit_8 : decode cX5_followsUnit 8 = .ok (.putfield 11, 3) := by decide +kernel
theorem dX5_followsUnit_11 : decode cX5_followsUnit 11 = .ok (.aload_n 0, 1) := by decide +kernel
theorem dX5_followsUnit_12 : decode cX5_followsUnit 12 = .ok (.dup, 1) := by decide +kernel
theorem dX5_followsUnit_13 : decode cX5_followsUnit 13 = .ok (.getfield 15, 3) := by decide +kernel
theorem dX5_followsUnit_16 : decode cX5_followsUnit 16 = .ok (.iconst 1, 1) := by decide +kernel
theorem dX5_followsUnit_17 : decode cX5_followsUnit 17 = .ok (.isub, 1) := by decide +kernel
theorem dX5_followsUnit_18 : decode cX5_followsUnit 18 = .ok (.putfield 15, 3) := by decide +kernel
theorem dX5_followsUnit_21 : decode cX5_followsUnit 21 = .ok (.aload_n 0, 1) := by decide +kernel
theorem dX5_followsUnit_22 : decode cX5_followsUnit 22 = .ok (.getfield 15, 3) := by decide +kernel
theorem dX5_followsUnit_25 : decode cX5_followsUnit 25 = .ok (.ifCond .lt 7, 3) := by decide +kernel
theorem dX5_followsUnit_28 : decode cX5_followsUnit 28 = .ok (.iconst 1, 1) := by decide +kernel
theorem dX5_followsUnit_29 : decode cX5_followsUnit 29 = .ok (.goto 4, 3) := by decide +kernel
theorem dX5_followsUnit_32 : decode cX5_followsUnit 32 = .ok (.iconst 0, 1) := by decide +kernel
theorem dX5_followsUnit_33 : decode cX5_followsUnit 33 = .ok (.ireturn, 1) := by decide +kernel
theorem dX5_followsUnit_34 : decode cX5_followsUnit 34 = .ok (.aload_n 0, 1) := by decide +kernel
theorem dX5_followsUnit_35 : decode cX5_followsUnit 35 = .ok (.iconst 0, 1) := by decide +kernel
theorem dX5_followsUnit_36 : decode cX5_followsUnit 36 = .ok (.putfield 11, 3) := by decide +kernel
theorem dX5_followsUnit_39 : decode cX5_followsUnit 39 = .ok (.iload_n 1, 1) := by decide +kernel
theorem dX5_followsUnit_40 : decode cX5_followsUnit 40 = .ok (.bipush 38, 2) := by decide +kernel
theorem dX5_followsUnit_42 : decode cX5_followsUnit 42 = .ok (.if_icmp .eq 9, 3) := by decide +kernel
theorem dX5_followsUnit_45 : decode cX5_followsUnit 45 = .ok (.iload_n 1, 1) := by decide +kernel
theorem dX5_followsUnit_46 : decode cX5_followsUnit 46 = .ok (.bipush 124, 2) := by decide +kernel
theorem dX5_followsUnit_48 : decode cX5_followsUnit 48 = .ok (.if_icmp .ne 7, 3) := by decide +kernel
theorem dX5_followsUnit_51 : decode cX5_followsUnit 51 = .ok (.iconst 1, 1) := by decide +kernel
theorem dX5_followsUnit_52 : decode cX5_followsUnit 52 = .ok (.goto 4, 3) := by decide +kernel
theorem dX5_followsUnit_55 : decode cX5_followsUnit 55 = .ok (.iconst 0, 1) := by decide +kernel
theorem dX5_followsUnit_56 : decode cX5_followsUnit 56 = .ok (.ireturn, 1) := by decide +kernel
theorem dX5_isDigit_0 : decode cX5_isDigit 0 = .ok (.iload_n 0, 1) := by decide +kernel
theorem dX5_isDigit_1 : decode cX5_isDigit 1 = .ok (.bipush 48, 2) := by decide +kernel
theorem dX5_isDigit_3 : decode cX5_isDigit 3 = .ok (.if_icmp .lt 13, 3) := by decide +kernel
theorem dX5_isDigit_6 : decode cX5_isDigit 6 = .ok (.iload_n 0, 1) := by decide +kernel
theorem dX5_isDigit_7 : decode cX5_isDigit 7 = .ok (.bipush 57, 2) := by decide +kernel
theorem dX5_isDigit_9 : decode cX5_isDigit 9 = .ok (.if_icmp .gt 7, 3) := by decide +kernel
theorem dX5_isDigit_12 : decode cX5_isDigit 12 = .ok (.iconst 1, 1) := by decide +kernel
theorem dX5_isDigit_13 : decode cX5_isDigit 13 = .ok (.goto 4, 3) := by decide +kernel
theorem dX5_isDigit_16 : decode cX5_isDigit 16 = .ok (.iconst 0, 1) := by decide +kernel
theorem dX5_isDigit_17 : decode cX5_isDigit 17 = .ok (.ireturn, 1) := by decide +kernel
theorem dX5_isWord_0 : decode cX5_isWord 0 = .ok (.iload_n 0, 1) := by decide +kernel
theorem dX5_isWord_1 : decode cX5_isWord 1 = .ok (.bipush 121, 2) := by decide +kernel
theorem dX5_isWord_3 : decode cX5_isWord 3 = .ok (.if_icmp .eq 39, 3) := by decide +kernel
theorem dX5_isWord_6 : decode cX5_isWord 6 = .ok (.iload_n 0, 1) := by decide +kernel
theorem dX5_isWord_7 : decode cX5_isWord 7 = .ok (.bipush 100, 2) := by decide +kernel
theorem dX5_isWord_9 : decode cX5_isWord 9 = .ok (.if_icmp .eq 33, 3) := by decide +kernel
theorem dX5_isWord_12 : decode cX5_isWord 12 = .ok (.iload_n 0, 1) := by decide +kernel
theorem dX5_isWord_13 : decode cX5_isWord 13 = .ok (.bipush 119, 2) := by decide +kernel
theorem dX5_isWord_15 : decode cX5_isWord 15 = .ok (.if_icmp .eq 27, 3) := by decide +kernel
theorem dX5_isWord_18 : decode cX5_isWord 18 = .ok (.iload_n 0, 1) := by decide +kernel
theorem dX5_isWord_19 : decode cX5_isWord 19 = .ok (.bipush 108, 2) := by decide +kernel
theorem dX5_isWord_21 : decode cX5_isWord 21 = .ok (.if_icmp .eq 21, 3) := by decide +kernel
theorem dX5_isWord_24 : decode cX5_isWord 24 = .ok (.iload_n 0, 1) := by decide +kernel
theorem dX5_isWord_25 : decode cX5_isWord 25 = .ok (.bipush 102, 2) := by decide +kernel
theorem dX5_isWord_27 : decode cX5_isWord 27 = .ok (.if_icmp .eq 15, 3) := by decide +kernel
theorem dX5_isWord_30 : decode cX5_isWord 30 = .ok (.iload_n 0, 1) := by decide +kernel
theorem dX5_isWord_31 : decode cX5_isWord 31 = .ok (.bipush 109, 2) := by decide +kernel
theorem dX5_isWord_33 : decode cX5_isWord 33 = .ok (.if_icmp .eq 9, 3) := by decide +kernel
theorem dX5_isWord_36 : decode cX5_isWord 36 = .ok (.iload_n 0, 1) := by decide +kernel
theorem dX5_isWord_37 : decode cX5_isWord 37 = .ok (.bipush 107, 2) := by decide +kernel
theorem dX5_isWord_39 : decode cX5_isWord 39 = .ok (.if_icmp .ne 7, 3) := by decide +kernel
theorem dX5_isWord_42 : decode cX5_isWord 42 = .ok (.iconst 1, 1) := by decide +kernel
theorem dX5_isWord_43 : decode cX5_isWord 43 = .ok (.goto 4, 3) := by decide +kernel
theorem dX5_isWord_46 : decode cX5_isWord 46 = .ok (.iconst 0, 1) := by decide +kernel
theorem dX5_isWord_47 : decode cX5_isWord 47 = .ok (.ireturn, 1) := by decide +kernel
theorem dX6_init_0 : decode cX6_init 0 = .ok (.aload_n 0, 1) := by decide +kernel
theorem dX6_init_1 : decode cX6_init 1 = .ok (.invokespecial 3, 3) := by decide +kernel
theorem dX6_init_4 : decode cX6_init 4 = .ok (.aload_n 0, 1) := by decide +kernel
theorem dX6_init_5 : decode cX6_init 5 = .ok (.new 9, 3) := by decide +kernel
theorem dX6_init_8 : decode cX6_init 8 = .ok (.dup, 1) := by decide +kernel
theorem dX6_init_9 : decode cX6_init 9 = .ok (.invokespecial 11, 3) := by decide +kernel
theorem dX6_init_12 : decode cX6_init 12 = .ok (.putfield 12, 3) := by decide +kernel
theorem dX6_init_15 : decode cX6_init 15 = .ok (.aload_n 0, 1) := by decide +kernel
theorem dX6_init_16 : decode cX6_init 16 = .ok (.sipush 3600, 3) := by decide +kernel
theorem dX6_init_19 : decode cX6_init 19 = .ok (.newarray .char, 2) := by decide +kernel
theorem dX6_init_21 : decode cX6_init 21 = .ok (.putfield 18, 3) := by decide +kernel
theorem dX6_init_24 : decode cX6_init 24 = .ok (.aload_n 0, 1) := by decide +kernel
theorem dX6_init_25 : decode cX6_init 25 = .ok (.bipush 30, 2) := by decide +kernel
theorem dX6_init_27 : decode cX6_init 27 = .ok (.newarray .int, 2) := by decide +kernel
theorem dX6_init_29 : decode cX6_init 29 = .ok (.putfield 22, 3) := by decide +kernel
theorem dX6_init_32 : decode cX6_init 32 = .ok (.return_, 1) := by decide +kernel
theorem dX6_add_0 : decode cX6_add 0 = .ok (.aload_n 0, 1) := by decide +kernel
theorem dX6_add_1 : decode cX6_add 1 = .ok (.getfield 12, 3) := by decide +kernel
theorem dX6_add_4 : decode cX6_add 4 = .ok (.iload_n 2, 1) := by decide +kernel
theorem dX6_add_5 : decode cX6_add 5 = .ok (.iload_n 3, 1) := by decide +kernel
theorem dX6_add_6 : decode cX6_add 6 = .ok (.invokevirtual 26, 3) := by decide +kernel
theorem dX6_add_9 : decode cX6_add 9 = .ok (.istore 4, 2) := by decide +kernel
theorem dX6_add_11 : decode cX6_add 11 = .ok (.aload_n 1, 1) := by decide +kernel
theorem dX6_add_12 : decode cX6_add 12 = .ok (.getfield 30, 3) := by decide +kernel
theorem dX6_add_15 : decode cX6_add 15 = .ok (.iconst 0, 1) := by decide +kernel
theorem dX6_add_16 : decode cX6_add 16 = .ok (.aload_n 0, 1) := by decide +kernel
theorem dX6_add_17 : decode cX6_add 17 = .ok (.getfield 18, 3) := by decide +kernel
theorem dX6_add_20 : decode cX6_add 20 = .ok (.iload 4, 2) := by decide +kernel
theorem dX6_add_22 : decode cX6_add 22 = .ok (.bipush 120, 2) := by decide +kernel
theorem dX6_add_24 : decode cX6_add 24 = .ok (.imul, 1) := by decide +kernel
theorem dX6_add_25 : decode cX6_add 25 = .ok (.aload_n 1, 1) := by decide +kernel
theorem dX6_add_26 : decode cX6_add 26 = .ok (.getfield 33, 3) := by decide +kernel
theorem dX6_add_29 : decode cX6_add 29 = .ok (.invokestatic 36, 3) := by decide +kernel
theorem dX6_add_32 : decode cX6_add 32 = .ok (.aload_n 0, 1) := by decide +kernel
theorem dX6_add_33 : decode cX6_add 33 = .ok (.getfield 22, 3) := by decide +kernel
theorem dX6_add_36 : decode cX6_add 36 = .ok (.iload 4, 2) := by decide +kernel
theorem dX6_add_38 : decode cX6_add 38 = .ok (.aload_n 1, 1) := by decide +kernel
theorem dX6_add_39 : decode cX6_add 39 = .ok (.getfield 33, 3) := by decide +kernel
theorem dX6_add_42 : decode cX6_add 42 = .ok (.iastore, 1) := by decide +kernel
theorem dX6_add_43 : decode cX6_add 43 = .ok (.iload 4, 2) := by decide +kernel
theorem dX6_add_45 : decode cX6_add 45 = .ok (.ireturn, 1) := by decide +kernel
theorem dX6_holds_0 : decode cX6_holds 0 = .ok (.iload_n 1, 1) := by decide +kernel
theorem dX6_holds_1 : decode cX6_holds 1 = .ok (.bipush 120, 2) := by decide +kernel
theorem dX6_holds_3 : decode cX6_holds 3 = .ok (.imul, 1) := by decide +kernel
theorem dX6_holds_4 : decode cX6_holds 4 = .ok (.istore_n 3, 1) := by decide +kernel
theorem dX6_holds_5 : decode cX6_holds 5 = .ok (.aload_n 2, 1) := by decide +kernel
theorem dX6_holds_6 : decode cX6_holds 6 = .ok (.invokevirtual 42, 3) := by decide +kernel
theorem dX6_holds_9 : decode cX6_holds 9 = .ok (.iconst 0, 1) := by decide +kernel
theorem dX6_holds_10 : decode cX6_holds 10 = .ok (.istore 4, 2) := by decide +kernel
theorem dX6_holds_12 : decode cX6_holds 12 = .ok (.iload 4, 2) := by decide +kernel
theorem dX6_holds_14 : decode cX6_holds 14 = .ok (.aload_n 0, 1) := by decide +kernel
theorem dX6_holds_15 : decode cX6_holds 15 = .ok (.getfield 22, 3) := by decide +kernel
theorem dX6_holds_18 : decode cX6_holds 18 = .ok (.iload_n 1, 1) := by decide +kernel
theorem dX6_holds_19 : decode cX6_holds 19 = .ok (.iaload, 1) := by decide +kernel
theorem dX6_holds_20 : decode cX6_holds 20 = .ok (.if_icmp .ge 22, 3) := by decide +kernel
theorem dX6_holds_23 : decode cX6_holds 23 = .ok (.aload_n 2, 1) := by decide +kernel
theorem dX6_holds_24 : decode cX6_holds 24 = .ok (.aload_n 0, 1) := by decide +kernel
theorem dX6_holds_25 : decode cX6_holds 25 = .ok (.getfield 18, 3) := by decide +kernel
theorem dX6_holds_28 : decode cX6_holds 28 = .ok (.iload_n 3, 1) := by decide +kernel
theorem dX6_holds_29 : decode cX6_holds 29 = .ok (.iload 4, 2) := by decide +kernel
theorem dX6_holds_31 : decode cX6_holds 31 = .ok (.iadd, 1) := by decide +kernel
theorem dX6_holds_32 : decode cX6_holds 32 = .ok (.caload, 1) := by decide +kernel
theorem dX6_holds_33 : decode cX6_holds 33 = .ok (.invokevirtual 47, 3) := by decide +kernel
theorem dX6_holds_36 : decode cX6_holds 36 = .ok (.iinc 4 1, 3) := by decide +kernel
theorem dX6_holds_39 : decode cX6_holds 39 = .ok (.goto (-27), 3) := by decide +kernel
theorem dX6_holds_42 : decode cX6_holds 42 = .ok (.aload_n 2, 1) := by decide +kernel
theorem dX6_holds_43 : decode cX6_holds 43 = .ok (.invokevirtual 51, 3) := by decide +kernel
theorem dX6_holds_46 : decode cX6_holds 46 = .ok (.ireturn, 1) := by decide +kernel
theorem dX7_init_0 : decode cX7_init 0 = .ok (.aload_n 0, 1) := by decide +kernel
theorem dX7_init_1 : decode cX7_init 1 = .ok (.invokespecial 3, 3) := by decide +kernel
theorem dX7_init_4 : decode cX7_init 4 = .ok (.aload_n 0, 1) := by decide +kernel
theorem dX7_init_5 : decode cX7_init 5 = .ok (.bipush 100, 2) := by decide +kernel
theorem dX7_init_7 : decode cX7_init 7 = .ok (.newarray .int, 2) := by decide +kernel
theorem dX7_init_9 : decode cX7_init 9 = .ok (.putfield 9, 3) := by decide +kernel
theorem dX7_init_12 : decode cX7_init 12 = .ok (.aload_n 0, 1) := by decide +kernel
theorem dX7_init_13 : decode cX7_init 13 = .ok (.bipush 100, 2) := by decide +kernel
theorem dX7_init_15 : decode cX7_init 15 = .ok (.newarray .int, 2) := by decide +kernel
theorem dX7_init_17 : decode cX7_init 17 = .ok (.putfield 15, 3) := by decide +kernel
theorem dX7_init_20 : decode cX7_init 20 = .ok (.aload_n 0, 1) := by decide +kernel
theorem dX7_init_21 : decode cX7_init 21 = .ok (.bipush 100, 2) := by decide +kernel
theorem dX7_init_23 : decode cX7_init 23 = .ok (.newarray .int, 2) := by decide +kernel
theorem dX7_init_25 : decode cX7_init 25 = .ok (.putfield 18, 3) := by decide +kernel
theorem dX7_init_28 : decode cX7_init 28 = .ok (.aload_n 0, 1) := by decide +kernel
theorem dX7_init_29 : decode cX7_init 29 = .ok (.bipush 100, 2) := by decide +kernel
theorem dX7_init_31 : decode cX7_init 31 = .ok (.newarray .int, 2) := by decide +kernel
theorem dX7_init_33 : decode cX7_init 33 = .ok (.putfield 21, 3) := by decide +kernel
theorem dX7_init_36 : decode cX7_init 36 = .ok (.aload_n 0, 1) := by decide +kernel
theorem dX7_init_37 : decode cX7_init 37 = .ok (.bipush 100, 2) := by decide +kernel
theorem dX7_init_39 : decode cX7_init 39 = .ok (.newarray .int, 2) := by decide +kernel
theorem dX7_init_41 : decode cX7_init 41 = .ok (.putfield 24, 3) := by decide +kernel
theorem dX7_init_44 : decode cX7_init 44 = .ok (.aload_n 0, 1) := by decide +kernel
theorem dX7_init_45 : decode cX7_init 45 = .ok (.bipush 100, 2) := by decide +kernel
theorem dX7_init_47 : decode cX7_init 47 = .ok (.newarray .int, 2) := by decide +kernel
theorem dX7_init_49 : decode cX7_init 49 = .ok (.putfield 27, 3) := by decide +kernel
theorem dX7_init_52 : decode cX7_init 52 = .ok (.aload_n 0, 1) := by decide +kernel
theorem dX7_init_53 : decode cX7_init 53 = .ok (.iconst 0, 1) := by decide +kernel
theorem dX7_init_54 : decode cX7_init 54 = .ok (.putfield 30, 3) := by decide +kernel
theorem dX7_init_57 : decode cX7_init 57 = .ok (.aload_n 0, 1) := by decide +kernel
theorem dX7_init_58 : decode cX7_init 58 = .ok (.bipush 100, 2) := by decide +kernel
theorem dX7_init_60 : decode cX7_init 60 = .ok (.newarray .int, 2) := by decide +kernel
theorem dX7_init_62 : decode cX7_init 62 = .ok (.putfield 34, 3) := by decide +kernel
theorem dX7_init_65 : decode cX7_init 65 = .ok (.aload_n 0, 1) := by decide +kernel
theorem dX7_init_66 : decode cX7_init 66 = .ok (.iconst 0, 1) := by decide +kernel
theorem dX7_init_67 : decode cX7_init 67 = .ok (.putfield 37, 3) := by decide +kernel
theorem dX7_init_70 : decode cX7_init 70 = .ok (.return_, 1) := by decide +kernel
theorem dX7_isFull_0 : decode cX7_isFull 0 = .ok (.aload_n 0, 1) := by decide +kernel
theorem dX7_isFull_1 : decode cX7_isFull 1 = .ok (.getfield 30, 3) := by decide +kernel
theorem dX7_isFull_4 : decode cX7_isFull 4 = .ok (.bipush 100, 2) := by decide +kernel
theorem dX7_isFull_6 : decode cX7_isFull 6 = .ok (.if_icmp .lt 7, 3) := by decide +kernel
theorem dX7_isFull_9 : decode cX7_isFull 9 = .ok (.iconst 1, 1) := by decide +kernel
theorem dX7_isFull_10 : decode cX7_isFull 10 = .ok (.goto 4, 3) := by decide +kernel
theorem dX7_isFull_13 : decode cX7_isFull 13 = .ok (.iconst 0, 1) := by decide +kernel
theorem dX7_isFull_14 : decode cX7_isFull 14 = .ok (.ireturn, 1) := by decide +kernel
theorem dX7_has_0 : decode cX7_has 0 = .ok (.iload_n 1, 1) := by decide +kernel
theorem dX7_has_1 : decode cX7_has 1 = .ok (.ifCond .lt 15, 3) := by decide +kernel
theorem dX7_has_4 : decode cX7_has 4 = .ok (.iload_n 1, 1) := by decide +kernel
theorem dX7_has_5 : decode cX7_has 5 = .ok (.aload_n 0, 1) := by decide +kernel
theorem dX7_has_6 : decode cX7_has 6 = .ok (.getfield 30, 3) := by decide +kernel
theorem dX7_has_9 : decode cX7_has 9 = .ok (.if_icmp .ge 7, 3) := by decide +kernel
theorem dX7_has_12 : decode cX7_has 12 = .ok (.iconst 1, 1) := by decide +kernel
theorem dX7_has_13 : decode cX7_has 13 = .ok (.goto 4, 3) := by decide +kernel
theorem dX7_has_16 : decode cX7_has 16 = .ok (.iconst 0, 1) := by decide +kernel
theorem dX7_has_17 : decode cX7_has 17 = .ok (.ireturn, 1) := by decide +kernel
theorem dX7_isTakenBack_0 : decode cX7_isTakenBack 0 = .ok (.aload_n 0, 1) := by decide +kernel
theorem dX7_isTakenBack_1 : decode cX7_isTakenBack 1 = .ok (.getfield 27, 3) := by decide +kernel
theorem dX7_isTakenBack_4 : decode cX7_isTakenBack 4 = .ok (.iload_n 1, 1) := by decide +kernel
theorem dX7_isTakenBack_5 : decode cX7_isTakenBack 5 = .ok (.iaload, 1) := by decide +kernel
theorem dX7_isTakenBack_6 : decode cX7_isTakenBack 6 = .ok (.iconst (-1), 1) := by decide +kernel
theorem dX7_isTakenBack_7 : decode cX7_isTakenBack 7 = .ok (.if_icmp .eq 7, 3) := by decide +kernel
theorem dX7_isTakenBack_10 : decode cX7_isTakenBack 10 = .ok (.iconst 1, 1) := by decide +kernel
theorem dX7_isTakenBack_11 : decode cX7_isTakenBack 11 = .ok (.goto 4, 3) := by decide +kernel
theorem dX7_isTakenBack_14 : decode cX7_isTakenBack 14 = .ok (.iconst 0, 1) := by decide +kernel
theorem dX7_isTakenBack_15 : decode cX7_isTakenBack 15 = .ok (.ireturn, 1) := by decide +kernel
theorem dX7_add_0 : decode cX7_add 0 = .ok (.aload_n 0, 1) := by decide +kernel
theorem dX7_add_1 : decode cX7_add 1 = .ok (.getfield 30, 3) := by decide +kernel
theorem dX7_add_4 : decode cX7_add 4 = .ok (.istore 6, 2) := by decide +kernel
theorem dX7_add_6 : decode cX7_add 6 = .ok (.aload_n 0, 1) := by decide +kernel
theorem dX7_add_7 : decode cX7_add 7 = .ok (.getfield 9, 3) := by decide +kernel
theorem dX7_add_10 : decode cX7_add 10 = .ok (.iload 6, 2) := by decide +kernel
theorem dX7_add_12 : decode cX7_add 12 = .ok (.iload_n 1, 1) := by decide +kernel
theorem dX7_add_13 : decode cX7_add 13 = .ok (.iastore, 1) := by decide +kernel
theorem dX7_add_14 : decode cX7_add 14 = .ok (.aload_n 0, 1) := by decide +kernel
theorem dX7_add_15 : decode cX7_add 15 = .ok (.getfield 15, 3) := by decide +kernel
theorem dX7_add_18 : decode cX7_add 18 = .ok (.iload 6, 2) := by decide +kernel
theorem dX7_add_20 : decode cX7_add 20 = .ok (.iload_n 2, 1) := by decide +kernel
theorem dX7_add_21 : decode cX7_add 21 = .ok (.iastore, 1) := by decide +kernel
theorem dX7_add_22 : decode cX7_add 22 = .ok (.aload_n 0, 1) := by decide +kernel
theorem dX7_add_23 : decode cX7_add 23 = .ok (.getfield 18, 3) := by decide +kernel
theorem dX7_add_26 : decode cX7_add 26 = .ok (.iload 6, 2) := by decide +kernel
theorem dX7_add_28 : decode cX7_add 28 = .ok (.iload_n 3, 1) := by decide +kernel
theorem dX7_add_29 : decode cX7_add 29 = .ok (.iastore, 1) := by decide +kernel
theorem dX7_add_30 : decode cX7_add 30 = .ok (.aload_n 0, 1) := by decide +kernel
theorem dX7_add_31 : decode cX7_add 31 = .ok (.getfield 21, 3) := by decide +kernel
theorem dX7_add_34 : decode cX7_add 34 = .ok (.iload 6, 2) := by decide +kernel
theorem dX7_add_36 : decode cX7_add 36 = .ok (.iload 4, 2) := by decide +kernel
theorem dX7_add_38 : decode cX7_add 38 = .ok (.iastore, 1) := by decide +kernel
theorem dX7_add_39 : decode cX7_add 39 = .ok (.aload_n 0, 1) := by decide +kernel
theorem dX7_add_40 : decode cX7_add 40 = .ok (.getfield 24, 3) := by decide +kernel
theorem dX7_add_43 : decode cX7_add 43 = .ok (.iload 6, 2) := by decide +kernel
theorem dX7_add_45 : decode cX7_add 45 = .ok (.iload 5, 2) := by decide +kernel
theorem dX7_add_47 : decode cX7_add 47 = .ok (.iastore, 1) := by decide +kernel
theorem dX7_add_48 : decode cX7_add 48 = .ok (.aload_n 0, 1) := by decide +kernel
theorem dX7_add_49 : decode cX7_add 49 = .ok (.getfield 27, 3) := by decide +kernel
theorem dX7_add_52 : decode cX7_add 52 = .ok (.iload 6, 2) := by decide +kernel
theorem dX7_add_54 : decode cX7_add 54 = .ok (.iconst (-1), 1) := by decide +kernel
theorem dX7_add_55 : decode cX7_add 55 = .ok (.iastore, 1) := by decide +kernel
theorem dX7_add_56 : decode cX7_add 56 = .ok (.aload_n 0, 1) := by decide +kernel
theorem dX7_add_57 : decode cX7_add 57 = .ok (.dup, 1) := by decide +kernel
theorem dX7_add_58 : decode cX7_add 58 = .ok (.getfield 30, 3) := by decide +kernel
theorem dX7_add_61 : decode cX7_add 61 = .ok (.iconst 1, 1) := by decide +kernel
theorem dX7_add_62 : decode cX7_add 62 = .ok (.iadd, 1) := by decide +kernel
theorem dX7_add_63 : decode cX7_add 63 = .ok (.putfield 30, 3) := by decide +kernel
theorem dX7_add_66 : decode cX7_add 66 = .ok (.iload 6, 2) := by decide +kernel
theorem dX7_add_68 : decode cX7_add 68 = .ok (.ireturn, 1) := by decide +kernel
theorem dX7_takeBack_0 : decode cX7_takeBack 0 = .ok (.aload_n 0, 1) := by decide +kernel
theorem dX7_takeBack_1 : decode cX7_takeBack 1 = .ok (.getfield 27, 3) := by decide +kernel
theorem dX7_takeBack_4 : decode cX7_takeBack 4 = .ok (.iload_n 1, 1) := by decide +kernel
theorem dX7_takeBack_5 : decode cX7_takeBack 5 = .ok (.iload_n 2, 1) := by decide +kernel
theorem dX7_takeBack_6 : decode cX7_takeBack 6 = .ok (.iastore, 1) := by decide +kernel
theorem dX7_takeBack_7 : decode cX7_takeBack 7 = .ok (.return_, 1) := by decide +kernel
theorem dX7_isKnown_0 : decode cX7_isKnown 0 = .ok (.aload_n 0, 1) := by decide +kernel
theorem dX7_isKnown_1 : decode cX7_isKnown 1 = .ok (.getfield 24, 3) := by decide +kernel
theorem dX7_isKnown_4 : decode cX7_isKnown 4 = .ok (.iload_n 1, 1) := by decide +kernel
theorem dX7_isKnown_5 : decode cX7_isKnown 5 = .ok (.iaload, 1) := by decide +kernel
theorem dX7_isKnown_6 : decode cX7_isKnown 6 = .ok (.iload_n 2, 1) := by decide +kernel
theorem dX7_isKnown_7 : decode cX7_isKnown 7 = .ok (.if_icmp .gt 27, 3) := by decide +kernel
theorem dX7_isKnown_10 : decode cX7_isKnown 10 = .ok (.aload_n 0, 1) := by decide +kernel
theorem dX7_isKnown_11 : decode cX7_isKnown 11 = .ok (.getfield 27, 3) := by decide +kernel
theorem dX7_isKnown_14 : decode cX7_isKnown 14 = .ok (.iload_n 1, 1) := by decide +kernel
theorem dX7_isKnown_15 : decode cX7_isKnown 15 = .ok (.iaload, 1) := by decide +kernel
theorem dX7_isKnown_16 : decode cX7_isKnown 16 = .ok (.iconst (-1), 1) := by decide +kernel
theorem dX7_isKnown_17 : decode cX7_isKnown 17 = .ok (.if_icmp .eq 13, 3) := by decide +kernel
theorem dX7_isKnown_20 : decode cX7_isKnown 20 = .ok (.aload_n 0, 1) := by decide +kernel
theorem dX7_isKnown_21 : decode cX7_isKnown 21 = .ok (.getfield 27, 3) := by decide +kernel
theorem dX7_isKnown_24 : decode cX7_isKnown 24 = .ok (.iload_n 1, 1) := by decide +kernel
theorem dX7_isKnown_25 : decode cX7_isKnown 25 = .ok (.iaload, 1) := by decide +kernel
theorem dX7_isKnown_26 : decode cX7_isKnown 26 = .ok (.iload_n 2, 1) := by decide +kernel
theorem dX7_isKnown_27 : decode cX7_isKnown 27 = .ok (.if_icmp .le 7, 3) := by decide +kernel
theorem dX7_isKnown_30 : decode cX7_isKnown 30 = .ok (.iconst 1, 1) := by decide +kernel
theorem dX7_isKnown_31 : decode cX7_isKnown 31 = .ok (.goto 4, 3) := by decide +kernel
theorem dX7_isKnown_34 : decode cX7_isKnown 34 = .ok (.iconst 0, 1) := by decide +kernel
theorem dX7_isKnown_35 : decode cX7_isKnown 35 = .ok (.ireturn, 1) := by decide +kernel
theorem dX7_hasServed_0 : decode cX7_hasServed 0 = .ok (.iconst 0, 1) := by decide +kernel
theorem dX7_hasServed_1 : decode cX7_hasServed 1 = .ok (.istore 4, 2) := by decide +kernel
theorem dX7_hasServed_3 : decode cX7_hasServed 3 = .ok (.iload 4, 2) := by decide +kernel
theorem dX7_hasServed_5 : decode cX7_hasServed 5 = .ok (.aload_n 0, 1) := by decide +kernel
theorem dX7_hasServed_6 : decode cX7_hasServed 6 = .ok (.getfield 30, 3) := by decide +kernel
theorem dX7_hasServed_9 : decode cX7_hasServed 9 = .ok (.if_icmp .ge 43, 3) := by decide +kernel
theorem dX7_hasServed_12 : decode cX7_hasServed 12 = .ok (.aload_n 0, 1) := by decide +kernel
theorem dX7_hasServed_13 : decode cX7_hasServed 13 = .ok (.getfield 9, 3) := by decide +kernel
theorem dX7_hasServed_16 : decode cX7_hasServed 16 = .ok (.iload 4, 2) := by decide +kernel
theorem dX7_hasServed_18 : decode cX7_hasServed 18 = .ok (.iaload, 1) := by decide +kernel
theorem dX7_hasServed_19 : decode cX7_hasServed 19 = .ok (.iload_n 1, 1) := by decide +kernel
theorem dX7_hasServed_20 : decode cX7_hasServed 20 = .ok (.if_icmp .ne 26, 3) := by decide +kernel
theorem dX7_hasServed_23 : decode cX7_hasServed 23 = .ok (.aload_n 0, 1) := by decide +kernel
theorem dX7_hasServed_24 : decode cX7_hasServed 24 = .ok (.getfield 15, 3) := by decide +kernel
theorem dX7_hasServed_27 : decode cX7_hasServed 27 = .ok (.iload 4, 2) := by decide +kernel
theorem dX7_hasServed_29 : decode cX7_hasServed 29 = .ok (.iaload, 1) := by decide +kernel
theorem dX7_hasServed_30 : decode cX7_hasServed 30 = .ok (.iload_n 2, 1) := by decide +kernel
theorem dX7_hasServed_31 : decode cX7_hasServed 31 = .ok (.if_icmp .ne 15, 3) := by decide +kernel
theorem dX7_hasServed_34 : decode cX7_hasServed 34 = .ok (.aload_n 0, 1) := by decide +kernel
theorem dX7_hasServed_35 : decode cX7_hasServed 35 = .ok (.iload 4, 2) := by decide +kernel
theorem dX7_hasServed_37 : decode cX7_hasServed 37 = .ok (.iload_n 3, 1) := by decide +kernel
theorem dX7_hasServed_38 : decode cX7_hasServed 38 = .ok (.invokevirtual 40, 3) := by decide +kernel
theorem dX7_hasServed_41 : decode cX7_hasServed 41 = .ok (.ifCond .eq 5, 3) := by decide +kernel
theorem dX7_hasServed_44 : decode cX7_hasServed 44 = .ok (.iconst 1, 1) := by decide +kernel
theorem dX7_hasServed_45 : decode cX7_hasServed 45 = .ok (.ireturn, 1) := by decide +kernel
theorem dX7_hasServed_46 : decode cX7_hasServed 46 = .ok (.iinc 4 1, 3) := by decide +kernel
theorem dX7_hasServed_49 : decode cX7_hasServed 49 = .ok (.goto (-46), 3) := by decide +kernel
theorem dX7_hasServed_52 : decode cX7_hasServed 52 = .ok (.iconst 0, 1) := by decide +kernel
theorem dX7_hasServed_53 : decode cX7_hasServed 53 = .ok (.ireturn, 1) := by decide +kernel
theorem dX7_firstServedDay_0 : decode cX7_firstServedDay 0 = .ok (.iconst (-1), 1) := by decide +kernel
theorem dX7_firstServedDay_1 : decode cX7_firstServedDay 1 = .ok (.istore 4, 2) := by decide +kernel
theorem dX7_firstServedDay_3 : decode cX7_firstServedDay 3 = .ok (.aload_n 0, 1) := by decide +kernel
theorem dX7_firstServedDay_4 : decode cX7_firstServedDay 4 = .ok (.iload_n 1, 1) := by decide +kernel
theorem dX7_firstServedDay_5 : decode cX7_firstServedDay 5 = .ok (.iload_n 2, 1) := by decide +kernel
theorem dX7_firstServedDay_6 : decode cX7_firstServedDay 6 = .ok (.iload_n 3, 1) := by decide +kernel
theorem dX7_firstServedDay_7 : decode cX7_firstServedDay 7 = .ok (.invokevirtual 44, 3) := by decide +kernel
theorem dX7_firstServedDay_10 : decode cX7_firstServedDay 10 = .ok (.iconst 0, 1) := by decide +kernel
theorem dX7_firstServedDay_11 : decode cX7_firstServedDay 11 = .ok (.istore 5, 2) := by decide +kernel
theorem dX7_firstServedDay_13 : decode cX7_firstServedDay 13 = .ok (.iload 5, 2) := by decide +kernel
theorem dX7_firstServedDay_15 : decode cX7_firstServedDay 15 = .ok (.aload_n 0, 1) := by decide +kernel
theorem dX7_firstServedDay_16 : decode cX7_firstServedDay 16 = .ok (.getfield 37, 3) := by decide +kernel
theorem dX7_firstServedDay_19 : decode cX7_firstServedDay 19 = .ok (.if_icmp .ge 56, 3) := by decide +kernel
theorem dX7_firstServedDay_22 : decode cX7_firstServedDay 22 = .ok (.aload_n 0, 1) := by decide +kernel
theorem dX7_firstServedDay_23 : decode cX7_firstServedDay 23 = .ok (.getfield 34, 3) := by decide +kernel
theorem dX7_firstServedDay_26 : decode cX7_firstServedDay 26 = .ok (.iload 5, 2) := by decide +kernel
theorem dX7_firstServedDay_28 : decode cX7_firstServedDay 28 = .ok (.iaload, 1) := by decide +kernel
theorem dX7_firstServedDay_29 : decode cX7_firstServedDay 29 = .ok (.istore 6, 2) := by decide +kernel
theorem dX7_firstServedDay_31 : decode cX7_firstServedDay 31 = .ok (.aload_n 0, 1) := by decide +kernel
theorem dX7_firstServedDay_32 : decode cX7_firstServedDay 32 = .ok (.getfield 15, 3) := by decide +kernel
theorem dX7_firstServedDay_35 : decode cX7_firstServedDay 35 = .ok (.iload 6, 2) := by decide +kernel
theorem dX7_firstServedDay_37 : decode cX7_firstServedDay 37 = .ok (.iaload, 1) := by decide +kernel
theorem dX7_firstServedDay_38 : decode cX7_firstServedDay 38 = .ok (.iconst (-1), 1) := by decide +kernel
theorem dX7_firstServedDay_39 : decode cX7_firstServedDay 39 = .ok (.if_icmp .eq 30, 3) := by decide +kernel
theorem dX7_firstServedDay_42 : decode cX7_firstServedDay 42 = .ok (.iload 4, 2) := by decide +kernel
theorem dX7_firstServedDay_44 : decode cX7_firstServedDay 44 = .ok (.iconst (-1), 1) := by decide +kernel
theorem dX7_firstServedDay_45 : decode cX7_firstServedDay 45 = .ok (.if_icmp .eq 15, 3) := by decide +kernel
theorem dX7_firstServedDay_48 : decode cX7_firstServedDay 48 = .ok (.aload_n 0, 1) := by decide +kernel
theorem dX7_firstServedDay_49 : decode cX7_firstServedDay 49 = .ok (.getfield 18, 3) := by decide +kernel
theorem dX7_firstServedDay_52 : decode cX7_firstServedDay 52 = .ok (.iload 6, 2) := by decide +kernel
theorem dX7_firstServedDay_54 : decode cX7_firstServedDay 54 = .ok (.iaload, 1) := by decide +kernel
theorem dX7_firstServedDay_55 : decode cX7_firstServedDay 55 = .ok (.iload 4, 2) := by decide +kernel
theorem dX7_firstServedDay_57 : decode cX7_firstServedDay 57 = .ok (.if_icmp .ge 12, 3) := by decide +kernel
theorem dX7_firstServedDay_60 : decode cX7_firstServedDay 60 = .ok (.aload_n 0, 1) := by decide +kernel
theorem dX7_firstServedDay_61 : decode cX7_firstServedDay 61 = .ok (.getfield 18, 3) := by decide +kernel
theorem dX7_firstServedDay_64 : decode cX7_firstServedDay 64 = .ok (.iload 6, 2) := by decide +kernel
theorem dX7_firstServedDay_66 : decode cX7_firstServedDay 66 = .ok (.iaload, 1) := by decide +kernel
theorem dX7_firstServedDay_67 : decode cX7_firstServedDay 67 = .ok (.istore 4, 2) := by decide +kernel
theorem dX7_firstServedDay_69 : decode cX7_firstServedDay 69 = .ok (.iinc 5 1, 3) := by decide +kernel
theorem dX7_firstServedDay_72 : decode cX7_firstServedDay 72 = .ok (.goto (-59), 3) := by decide +kernel
theorem dX7_firstServedDay_75 : decode cX7_firstServedDay 75 = .ok (.iload 4, 2) := by decide +kernel
theorem dX7_firstServedDay_77 : decode cX7_firstServedDay 77 = .ok (.ireturn, 1) := by decide +kernel
theorem dX7_daysOf_0 : decode cX7_daysOf 0 = .ok (.iconst 0, 1) := by decide +kernel
theorem dX7_daysOf_1 : decode cX7_daysOf 1 = .ok (.istore 5, 2) := by decide +kernel
theorem dX7_daysOf_3 : decode cX7_daysOf 3 = .ok (.iconst 0, 1) := by decide +kernel
theorem dX7_daysOf_4 : decode cX7_daysOf 4 = .ok (.istore 6, 2) := by decide +kernel
theorem dX7_daysOf_6 : decode cX7_daysOf 6 = .ok (.aload_n 0, 1) := by decide +kernel
theorem dX7_daysOf_7 : decode cX7_daysOf 7 = .ok (.iload_n 2, 1) := by decide +kernel
theorem dX7_daysOf_8 : decode cX7_daysOf 8 = .ok (.iload_n 3, 1) := by decide +kernel
theorem dX7_daysOf_9 : decode cX7_daysOf 9 = .ok (.iload 4, 2) := by decide +kernel
theorem dX7_daysOf_11 : decode cX7_daysOf 11 = .ok (.invokevirtual 44, 3) := by decide +kernel
theorem dX7_daysOf_14 : decode cX7_daysOf 14 = .ok (.iconst 0, 1) := by decide +kernel
theorem dX7_daysOf_15 : decode cX7_daysOf 15 = .ok (.istore 7, 2) := by decide +kernel
theorem dX7_daysOf_17 : decode cX7_daysOf 17 = .ok (.iload 7, 2) := by decide +kernel
theorem dX7_daysOf_19 : decode cX7_daysOf 19 = .ok (.sipush 201, 3) := by decide +kernel
theorem dX7_daysOf_22 : decode cX7_daysOf 22 = .ok (.if_icmp .ge 48, 3) := by decide +kernel
theorem dX7_daysOf_25 : decode cX7_daysOf 25 = .ok (.iload 6, 2) := by decide +kernel
theorem dX7_daysOf_27 : decode cX7_daysOf 27 = .ok (.iload_n 3, 1) := by decide +kernel
theorem dX7_daysOf_28 : decode cX7_daysOf 28 = .ok (.if_icmp .gt 42, 3) := by decide +kernel
theorem dX7_daysOf_31 : decode cX7_daysOf 31 = .ok (.aload_n 0, 1) := by decide +kernel
theorem dX7_daysOf_32 : decode cX7_daysOf 32 = .ok (.iload 6, 2) := by decide +kernel
theorem dX7_daysOf_34 : decode cX7_daysOf 34 = .ok (.iload_n 3, 1) := by decide +kernel
theorem dX7_daysOf_35 : decode cX7_daysOf 35 = .ok (.invokevirtual 48, 3) := by decide +kernel
theorem dX7_daysOf_38 : decode cX7_daysOf 38 = .ok (.istore 8, 2) := by decide +kernel
theorem dX7_daysOf_40 : decode cX7_daysOf 40 = .ok (.aload_n 0, 1) := by decide +kernel
theorem dX7_daysOf_41 : decode cX7_daysOf 41 = .ok (.iload_n 1, 1) := by decide +kernel
theorem dX7_daysOf_42 : decode cX7_daysOf 42 = .ok (.iload 6, 2) := by decide +kernel
theorem dX7_daysOf_44 : decode cX7_daysOf 44 = .ok (.invokevirtual 52, 3) := by decide +kernel
theorem dX7_daysOf_47 : decode cX7_daysOf 47 = .ok (.ifCond .eq 13, 3) := by decide +kernel
theorem dX7_daysOf_50 : decode cX7_daysOf 50 = .ok (.iload 5, 2) := by decide +kernel
theorem dX7_daysOf_52 : decode cX7_daysOf 52 = .ok (.iload 8, 2) := by decide +kernel
theorem dX7_daysOf_54 : decode cX7_daysOf 54 = .ok (.iload 6, 2) := by decide +kernel
theorem dX7_daysOf_56 : decode cX7_daysOf 56 = .ok (.isub, 1) := by decide +kernel
theorem dX7_daysOf_57 : decode cX7_daysOf 57 = .ok (.iadd, 1) := by decide +kernel
theorem dX7_daysOf_58 : decode cX7_daysOf 58 = .ok (.istore 5, 2) := by decide +kernel
theorem dX7_daysOf_60 : decode cX7_daysOf 60 = .ok (.iload 8, 2) := by decide +kernel
theorem dX7_daysOf_62 : decode cX7_daysOf 62 = .ok (.istore 6, 2) := by decide +kernel
theorem dX7_daysOf_64 : decode cX7_daysOf 64 = .ok (.iinc 7 1, 3) := by decide +kernel
theorem dX7_daysOf_67 : decode cX7_daysOf 67 = .ok (.goto (-50), 3) := by decide +kernel
theorem dX7_daysOf_70 : decode cX7_daysOf 70 = .ok (.iload 5, 2) := by decide +kernel
theorem dX7_daysOf_72 : decode cX7_daysOf 72 = .ok (.ireturn, 1) := by decide +kernel
theorem dX7_pick_0 : decode cX7_pick 0 = .ok (.aload_n 0, 1) := by decide +kernel
theorem dX7_pick_1 : decode cX7_pick 1 = .ok (.iconst 0, 1) := by decide +kernel
theorem dX7_pick_2 : decode cX7_pick 2 = .ok (.putfield 37, 3) := by decide +kernel
theorem dX7_pick_5 : decode cX7_pick 5 = .ok (.iconst 0, 1) := by decide +kernel
theorem dX7_pick_6 : decode cX7_pick 6 = .ok (.istore 4, 2) := by decide +kernel
theorem dX7_pick_8 : decode cX7_pick 8 = .ok (.iload 4, 2) := by decide +kernel
theorem dX7_pick_10 : decode cX7_pick 10 = .ok (.aload_n 0, 1) := by decide +kernel
theorem dX7_pick_11 : decode cX7_pick 11 = .ok (.getfield 30, 3) := by decide +kernel
theorem dX7_pick_14 : decode cX7_pick 14 = .ok (.if_icmp .ge 62, 3) := by decide +kernel
theorem dX7_pick_17 : decode cX7_pick 17 = .ok (.aload_n 0, 1) := by decide +kernel
theorem dX7_pick_18 : decode cX7_pick 18 = .ok (.getfield 9, 3) := by decide +kernel
theorem dX7_pick_21 : decode cX7_pick 21 = .ok (.iload 4, 2) := by decide +kernel
theorem dX7_pick_23 : decode cX7_pick 23 = .ok (.iaload, 1) := by decide +kernel
theorem dX7_pick_24 : decode cX7_pick 24 = .ok (.iload_n 1, 1) := by decide +kernel
theorem dX7_pick_25 : decode cX7_pick 25 = .ok (.if_icmp .ne 45, 3) := by decide +kernel
theorem dX7_pick_28 : decode cX7_pick 28 = .ok (.aload_n 0, 1) := by decide +kernel
theorem dX7_pick_29 : decode cX7_pick 29 = .ok (.getfield 18, 3) := by decide +kernel
theorem dX7_pick_32 : decode cX7_pick 32 = .ok (.iload 4, 2) := by decide +kernel
theorem dX7_pick_34 : decode cX7_pick 34 = .ok (.iaload, 1) := by decide +kernel
theorem dX7_pick_35 : decode cX7_pick 35 = .ok (.iload_n 2, 1) := by decide +kernel
theorem dX7_pick_36 : decode cX7_pick 36 = .ok (.if_icmp .gt 34, 3) := by decide +kernel
theorem dX7_pick_39 : decode cX7_pick 39 = .ok (.aload_n 0, 1) := by decide +kernel
theorem dX7_pick_40 : decode cX7_pick 40 = .ok (.iload 4, 2) := by decide +kernel
theorem dX7_pick_42 : decode cX7_pick 42 = .ok (.iload_n 3, 1) := by decide +kernel
theorem dX7_pick_43 : decode cX7_pick 43 = .ok (.invokevirtual 40, 3) := by decide +kernel
theorem dX7_pick_46 : decode cX7_pick 46 = .ok (.ifCond .eq 24, 3) := by decide +kernel
theorem dX7_pick_49 : decode cX7_pick 49 = .ok (.aload_n 0, 1) := by decide +kernel
theorem dX7_pick_50 : decode cX7_pick 50 = .ok (.getfield 34, 3) := by decide +kernel
theorem dX7_pick_53 : decode cX7_pick 53 = .ok (.aload_n 0, 1) := by decide +kernel
theorem dX7_pick_54 : decode cX7_pick 54 = .ok (.getfield 37, 3) := by decide +kernel
theorem dX7_pick_57 : decode cX7_pick 57 = .ok (.iload 4, 2) := by decide +kernel
theorem dX7_pick_59 : decode cX7_pick 59 = .ok (.iastore, 1) := by decide +kernel
theorem dX7_pick_60 : decode cX7_pick 60 = .ok (.aload_n 0, 1) := by decide +kernel
theorem dX7_pick_61 : decode cX7_pick 61 = .ok (.dup, 1) := by decide +kernel
theorem dX7_pick_62 : decode cX7_pick 62 = .ok (.getfield 37, 3) := by decide +kernel
theorem dX7_pick_65 : decode cX7_pick 65 = .ok (.iconst 1, 1) := by decide +kernel
theorem dX7_pick_66 : decode cX7_pick 66 = .ok (.iadd, 1) := by decide +kernel
theorem dX7_pick_67 : decode cX7_pick 67 = .ok (.putfield 37, 3) := by decide +kernel
theorem dX7_pick_70 : decode cX7_pick 70 = .ok (.iinc 4 1, 3) := by decide +kernel
theorem dX7_pick_73 : decode cX7_pick 73 = .ok (.goto (-65), 3) := by decide +kernel
theorem dX7_pick_76 : decode cX7_pick 76 = .ok (.return_, 1) := by decide +kernel
theorem dX7_nextChange_0 : decode cX7_nextChange 0 = .ok (.iload_n 2, 1) := by decide +kernel
theorem dX7_nextChange_1 : decode cX7_nextChange 1 = .ok (.iconst 1, 1) := by decide +kernel
theorem dX7_nextChange_2 : decode cX7_nextChange 2 = .ok (.iadd, 1) := by decide +kernel
theorem dX7_nextChange_3 : decode cX7_nextChange 3 = .ok (.istore_n 3, 1) := by decide +kernel
theorem dX7_nextChange_4 : decode cX7_nextChange 4 = .ok (.iconst 0, 1) := by decide +kernel
theorem dX7_nextChange_5 : decode cX7_nextChange 5 = .ok (.istore 4, 2) := by decide +kernel
theorem dX7_nextChange_7 : decode cX7_nextChange 7 = .ok (.iload 4, 2) := by decide +kernel
theorem dX7_nextChange_9 : decode cX7_nextChange 9 = .ok (.aload_n 0, 1) := by decide +kernel
theorem dX7_nextChange_10 : decode cX7_nextChange 10 = .ok (.getfield 37, 3) := by decide +kernel
theorem dX7_nextChange_13 : decode cX7_nextChange 13 = .ok (.if_icmp .ge 69, 3) := by decide +kernel
theorem dX7_nextChange_16 : decode cX7_nextChange 16 = .ok (.aload_n 0, 1) := by decide +kernel
theorem dX7_nextChange_17 : decode cX7_nextChange 17 = .ok (.getfield 34, 3) := by decide +kernel
theorem dX7_nextChange_20 : decode cX7_nextChange 20 = .ok (.iload 4, 2) := by decide +kernel
theorem dX7_nextChange_22 : decode cX7_nextChange 22 = .ok (.iaload, 1) := by decide +kernel
theorem dX7_nextChange_23 : decode cX7_nextChange 23 = .ok (.istore 5, 2) := by decide +kernel
theorem dX7_nextChange_25 : decode cX7_nextChange 25 = .ok (.aload_n 0, 1) := by decide +kernel
theorem dX7_nextChange_26 : decode cX7_nextChange 26 = .ok (.getfield 18, 3) := by decide +kernel
theorem dX7_nextChange_29 : decode cX7_nextChange 29 = .ok (.iload 5, 2) := by decide +kernel
theorem dX7_nextChange_31 : decode cX7_nextChange 31 = .ok (.iaload, 1) := by decide +kernel
theorem dX7_nextChange_32 : decode cX7_nextChange 32 = .ok (.iload_n 1, 1) := by decide +kernel
theorem dX7_nextChange_33 : decode cX7_nextChange 33 = .ok (.if_icmp .le 18, 3) := by decide +kernel
theorem dX7_nextChange_36 : decode cX7_nextChange 36 = .ok (.iload_n 3, 1) := by decide +kernel
theorem dX7_nextChange_37 : decode cX7_nextChange 37 = .ok (.aload_n 0, 1) := by decide +kernel
theorem dX7_nextChange_38 : decode cX7_nextChange 38 = .ok (.getfield 18, 3) := by decide +kernel
theorem dX7_nextChange_41 : decode cX7_nextChange 41 = .ok (.iload 5, 2) := by decide +kernel
theorem dX7_nextChange_43 : decode cX7_nextChange 43 = .ok (.iaload, 1) := by decide +kernel
theorem dX7_nextChange_44 : decode cX7_nextChange 44 = .ok (.invokestatic 55, 3) := by decide +kernel
theorem dX7_nextChange_47 : decode cX7_nextChange 47 = .ok (.istore_n 3, 1) := by decide +kernel
theorem dX7_nextChange_48 : decode cX7_nextChange 48 = .ok (.goto 28, 3) := by decide +kernel
theorem dX7_nextChange_51 : decode cX7_nextChange 51 = .ok (.aload_n 0, 1) := by decide +kernel
theorem dX7_nextChange_52 : decode cX7_nextChange 52 = .ok (.getfield 21, 3) := by decide +kernel
theorem dX7_nextChange_55 : decode cX7_nextChange 55 = .ok (.iload 5, 2) := by decide +kernel
theorem dX7_nextChange_57 : decode cX7_nextChange 57 = .ok (.iaload, 1) := by decide +kernel
theorem dX7_nextChange_58 : decode cX7_nextChange 58 = .ok (.iload_n 1, 1) := by decide +kernel
theorem dX7_nextChange_59 : decode cX7_nextChange 59 = .ok (.if_icmp .lt 17, 3) := by decide +kernel
theorem dX7_nextChange_62 : decode cX7_nextChange 62 = .ok (.iload_n 3, 1) := by decide +kernel
theorem dX7_nextChange_63 : decode cX7_nextChange 63 = .ok (.aload_n 0, 1) := by decide +kernel
theorem dX7_nextChange_64 : decode cX7_nextChange 64 = .ok (.getfield 21, 3) := by decide +kernel
theorem dX7_nextChange_67 : decode cX7_nextChange 67 = .ok (.iload 5, 2) := by decide +kernel
theorem dX7_nextChange_69 : decode cX7_nextChange 69 = .ok (.iaload, 1) := by decide +kernel
theorem dX7_nextChange_70 : decode cX7_nextChange 70 = .ok (.iconst 1, 1) := by decide +kernel
theorem dX7_nextChange_71 : decode cX7_nextChange 71 = .ok (.iadd, 1) := by decide +kernel
theorem dX7_nextChange_72 : decode cX7_nextChange 72 = .ok (.invokestatic 55, 3) := by decide +kernel
theorem dX7_nextChange_75 : decode cX7_nextChange 75 = .ok (.istore_n 3, 1) := by decide +kernel
theorem dX7_nextChange_76 : decode cX7_nextChange 76 = .ok (.iinc 4 1, 3) := by decide +kernel
theorem dX7_nextChange_79 : decode cX7_nextChange 79 = .ok (.goto (-72), 3) := by decide +kernel
theorem dX7_nextChange_82 : decode cX7_nextChange 82 = .ok (.iload_n 3, 1) := by decide +kernel
theorem dX7_nextChange_83 : decode cX7_nextChange 83 = .ok (.ireturn, 1) := by decide +kernel
theorem dX7_isOfKind_0 : decode cX7_isOfKind 0 = .ok (.iconst (-1), 1) := by decide +kernel
theorem dX7_isOfKind_1 : decode cX7_isOfKind 1 = .ok (.istore_n 3, 1) := by decide +kernel
theorem dX7_isOfKind_2 : decode cX7_isOfKind 2 = .ok (.iconst 0, 1) := by decide +kernel
theorem dX7_isOfKind_3 : decode cX7_isOfKind 3 = .ok (.istore 4, 2) := by decide +kernel
theorem dX7_isOfKind_5 : decode cX7_isOfKind 5 = .ok (.iconst 0, 1) := by decide +kernel
theorem dX7_isOfKind_6 : decode cX7_isOfKind 6 = .ok (.istore 5, 2) := by decide +kernel
theorem dX7_isOfKind_8 : decode cX7_isOfKind 8 = .ok (.iconst 0, 1) := by decide +kernel
theorem dX7_isOfKind_9 : decode cX7_isOfKind 9 = .ok (.istore 6, 2) := by decide +kernel
theorem dX7_isOfKind_11 : decode cX7_isOfKind 11 = .ok (.iload 6, 2) := by decide +kernel
theorem dX7_isOfKind_13 : decode cX7_isOfKind 13 = .ok (.aload_n 0, 1) := by decide +kernel
theorem dX7_isOfKind_14 : decode cX7_isOfKind 14 = .ok (.getfield 37, 3) := by decide +kernel
theorem dX7_isOfKind_17 : decode cX7_isOfKind 17 = .ok (.if_icmp .ge 96, 3) := by decide +kernel
theorem dX7_isOfKind_20 : decode cX7_isOfKind 20 = .ok (.aload_n 0, 1) := by decide +kernel
theorem dX7_isOfKind_21 : decode cX7_isOfKind 21 = .ok (.getfield 34, 3) := by decide +kernel
theorem dX7_isOfKind_24 : decode cX7_isOfKind 24 = .ok (.iload 6, 2) := by decide +kernel
theorem dX7_isOfKind_26 : decode cX7_isOfKind 26 = .ok (.iaload, 1) := by decide +kernel
theorem dX7_isOfKind_27 : decode cX7_isOfKind 27 = .ok (.istore 7, 2) := by decide +kernel
theorem dX7_isOfKind_29 : decode cX7_isOfKind 29 = .ok (.aload_n 0, 1) := by decide +kernel
theorem dX7_isOfKind_30 : decode cX7_isOfKind 30 = .ok (.getfield 18, 3) := by decide +kernel
theorem dX7_isOfKind_33 : decode cX7_isOfKind 33 = .ok (.iload 7, 2) := by decide +kernel
theorem dX7_isOfKind_35 : decode cX7_isOfKind 35 = .ok (.iaload, 1) := by decide +kernel
theorem dX7_isOfKind_36 : decode cX7_isOfKind 36 = .ok (.iload_n 2, 1) := by decide +kernel
theorem dX7_isOfKind_37 : decode cX7_isOfKind 37 = .ok (.if_icmp .gt 70, 3) := by decide +kernel
theorem dX7_isOfKind_40 : decode cX7_isOfKind 40 = .ok (.aload_n 0, 1) := by decide +kernel
theorem dX7_isOfKind_41 : decode cX7_isOfKind 41 = .ok (.getfield 21, 3) := by decide +kernel
theorem dX7_isOfKind_44 : decode cX7_isOfKind 44 = .ok (.iload 7, 2) := by decide +kernel
theorem dX7_isOfKind_46 : decode cX7_isOfKind 46 = .ok (.iaload, 1) := by decide +kernel
theorem dX7_isOfKind_47 : decode cX7_isOfKind 47 = .ok (.iload_n 2, 1) := by decide +kernel
theorem dX7_isOfKind_48 : decode cX7_isOfKind 48 = .ok (.if_icmp .ge 6, 3) := by decide +kernel
theorem dX7_isOfKind_51 : decode cX7_isOfKind 51 = .ok (.goto 56, 3) := by decide +kernel
theorem dX7_isOfKind_54 : decode cX7_isOfKind 54 = .ok (.aload_n 0, 1) := by decide +kernel
theorem dX7_isOfKind_55 : decode cX7_isOfKind 55 = .ok (.getfield 15, 3) := by decide +kernel
theorem dX7_isOfKind_58 : decode cX7_isOfKind 58 = .ok (.iload 7, 2) := by decide +kernel
theorem dX7_isOfKind_60 : decode cX7_isOfKind 60 = .ok (.iaload, 1) := by decide +kernel
theorem dX7_isOfKind_61 : decode cX7_isOfKind 61 = .ok (.iconst (-1), 1) := by decide +kernel
theorem dX7_isOfKind_62 : decode cX7_isOfKind 62 = .ok (.if_icmp .ne 9, 3) := by decide +kernel
theorem dX7_isOfKind_65 : decode cX7_isOfKind 65 = .ok (.iconst 1, 1) := by decide +kernel
theorem dX7_isOfKind_66 : decode cX7_isOfKind 66 = .ok (.istore 5, 2) := by decide +kernel
theorem dX7_isOfKind_68 : decode cX7_isOfKind 68 = .ok (.goto 39, 3) := by decide +kernel
theorem dX7_isOfKind_71 : decode cX7_isOfKind 71 = .ok (.iload 4, 2) := by decide +kernel
theorem dX7_isOfKind_73 : decode cX7_isOfKind 73 = .ok (.ifCond .ne 19, 3) := by decide +kernel
theorem dX7_isOfKind_76 : decode cX7_isOfKind 76 = .ok (.iload_n 3, 1) := by decide +kernel
theorem dX7_isOfKind_77 : decode cX7_isOfKind 77 = .ok (.iconst (-1), 1) := by decide +kernel
theorem dX7_isOfKind_78 : decode cX7_isOfKind 78 = .ok (.if_icmp .eq 18, 3) := by decide +kernel
theorem dX7_isOfKind_81 : decode cX7_isOfKind 81 = .ok (.iload_n 3, 1) := by decide +kernel
theorem dX7_isOfKind_82 : decode cX7_isOfKind 82 = .ok (.aload_n 0, 1) := by decide +kernel
theorem dX7_isOfKind_83 : decode cX7_isOfKind 83 = .ok (.getfield 15, 3) := by decide +kernel
theorem dX7_isOfKind_86 : decode cX7_isOfKind 86 = .ok (.iload 7, 2) := by decide +kernel
theorem dX7_isOfKind_88 : decode cX7_isOfKind 88 = .ok (.iaload, 1) := by decide +kernel
theorem dX7_isOfKind_89 : decode cX7_isOfKind 89 = .ok (.if_icmp .eq 7, 3) := by decide +kernel
theorem dX7_isOfKind_92 : decode cX7_isOfKind 92 = .ok (.iconst 1, 1) := by decide +kernel
theorem dX7_isOfKind_93 : decode cX7_isOfKind 93 = .ok (.goto 4, 3) := by decide +kernel
theorem dX7_isOfKind_96 : decode cX7_isOfKind 96 = .ok (.iconst 0, 1) := by decide +kernel
theorem dX7_isOfKind_97 : decode cX7_isOfKind 97 = .ok (.istore 4, 2) := by decide +kernel
theorem dX7_isOfKind_99 : decode cX7_isOfKind 99 = .ok (.aload_n 0, 1) := by decide +kernel
theorem dX7_isOfKind_100 : decode cX7_isOfKind 100 = .ok (.getfield 15, 3) := by decide +kernel
theorem dX7_isOfKind_103 : decode cX7_isOfKind 103 = .ok (.iload 7, 2) := by decide +kernel
theorem dX7_isOfKind_105 : decode cX7_isOfKind 105 = .ok (.iaload, 1) := by decide +kernel
theorem dX7_isOfKind_106 : decode cX7_isOfKind 106 = .ok (.istore_n 3, 1) := by decide +kernel
theorem dX7_isOfKind_107 : decode cX7_isOfKind 107 = .ok (.iinc 6 1, 3) := by decide +kernel
theorem dX7_isOfKind_110 : decode cX7_isOfKind 110 = .ok (.goto (-99), 3) := by decide +kernel
theorem dX7_isOfKind_113 : decode cX7_isOfKind 113 = .ok (.iload_n 1, 1) := by decide +kernel
theorem dX7_isOfKind_114 : decode cX7_isOfKind 114 = .ok (.ifCond .ne 14, 3) := by decide +kernel
theorem dX7_isOfKind_117 : decode cX7_isOfKind 117 = .ok (.iload_n 3, 1) := by decide +kernel
theorem dX7_isOfKind_118 : decode cX7_isOfKind 118 = .ok (.iconst (-1), 1) := by decide +kernel
theorem dX7_isOfKind_119 : decode cX7_isOfKind 119 = .ok (.if_icmp .eq 7, 3) := by decide +kernel
theorem dX7_isOfKind_122 : decode cX7_isOfKind 122 = .ok (.iconst 1, 1) := by decide +kernel
theorem dX7_isOfKind_123 : decode cX7_isOfKind 123 = .ok (.goto 4, 3) := by decide +kernel
theorem dX7_isOfKind_126 : decode cX7_isOfKind 126 = .ok (.iconst 0, 1) := by decide +kernel
theorem dX7_isOfKind_127 : decode cX7_isOfKind 127 = .ok (.ireturn, 1) := by decide +kernel
theorem dX7_isOfKind_128 : decode cX7_isOfKind 128 = .ok (.iload_n 1, 1) := by decide +kernel
theorem dX7_isOfKind_129 : decode cX7_isOfKind 129 = .ok (.iconst 1, 1) := by decide +kernel
theorem dX7_isOfKind_130 : decode cX7_isOfKind 130 = .ok (.if_icmp .ne 21, 3) := by decide +kernel
theorem dX7_isOfKind_133 : decode cX7_isOfKind 133 = .ok (.iload 5, 2) := by decide +kernel
theorem dX7_isOfKind_135 : decode cX7_isOfKind 135 = .ok (.ifCond .eq 12, 3) := by decide +kernel
theorem dX7_isOfKind_138 : decode cX7_isOfKind 138 = .ok (.iload_n 3, 1) := by decide +kernel
theorem dX7_isOfKind_139 : decode cX7_isOfKind 139 = .ok (.iconst (-1), 1) := by decide +kernel
theorem dX7_isOfKind_140 : decode cX7_isOfKind 140 = .ok (.if_icmp .ne 7, 3) := by decide +kernel
theorem dX7_isOfKind_143 : decode cX7_isOfKind 143 = .ok (.iconst 1, 1) := by decide +kernel
theorem dX7_isOfKind_144 : decode cX7_isOfKind 144 = .ok (.goto 9, 3) := by decide +kernel
theorem dX7_isOfKind_147 : decode cX7_isOfKind 147 = .ok (.iconst 0, 1) := by decide +kernel
theorem dX7_isOfKind_148 : decode cX7_isOfKind 148 = .ok (.goto 5, 3) := by decide +kernel
theorem dX7_isOfKind_151 : decode cX7_isOfKind 151 = .ok (.iload 4, 2) := by decide +kernel
theorem dX7_isOfKind_153 : decode cX7_isOfKind 153 = .ok (.ireturn, 1) := by decide +kernel
theorem dX8_init_0 : decode cX8_init 0 = .ok (.aload_n 0, 1) := by decide +kernel
theorem dX8_init_1 : decode cX8_init 1 = .ok (.invokespecial 3, 3) := by decide +kernel
theorem dX8_init_4 : decode cX8_init 4 = .ok (.aload_n 0, 1) := by decide +kernel
theorem dX8_init_5 : decode cX8_init 5 = .ok (.bipush 6, 2) := by decide +kernel
theorem dX8_init_7 : decode cX8_init 7 = .ok (.newarray .int, 2) := by decide +kernel
theorem dX8_init_9 : decode cX8_init 9 = .ok (.putfield 9, 3) := by decide +kernel
theorem dX8_init_12 : decode cX8_init 12 = .ok (.aload_n 0, 1) := by decide +kernel
theorem dX8_init_13 : decode cX8_init 13 = .ok (.iconst 0, 1) := by decide +kernel
theorem dX8_init_14 : decode cX8_init 14 = .ok (.putfield 15, 3) := by decide +kernel
theorem dX8_init_17 : decode cX8_init 17 = .ok (.aload_n 0, 1) := by decide +kernel
theorem dX8_init_18 : decode cX8_init 18 = .ok (.iconst 1, 1) := by decide +kernel
theorem dX8_init_19 : decode cX8_init 19 = .ok (.putfield 19, 3) := by decide +kernel
theorem dX8_init_22 : decode cX8_init 22 = .ok (.aload_n 0, 1) := by decide +kernel
theorem dX8_init_23 : decode cX8_init 23 = .ok (.iconst 0, 1) := by decide +kernel
theorem dX8_init_24 : decode cX8_init 24 = .ok (.putfield 22, 3) := by decide +kernel
theorem dX8_init_27 : decode cX8_init 27 = .ok (.aload_n 0, 1) := by decide +kernel
theorem dX8_init_28 : decode cX8_init 28 = .ok (.bipush 32, 2) := by decide +kernel
theorem dX8_init_30 : decode cX8_init 30 = .ok (.putfield 25, 3) := by decide +kernel
theorem dX8_init_33 : decode cX8_init 33 = .ok (.aload_n 0, 1) := by decide +kernel
theorem dX8_init_34 : decode cX8_init 34 = .ok (.iconst 0, 1) := by decide +kernel
theorem dX8_init_35 : decode cX8_init 35 = .ok (.putfield 29, 3) := by decide +kernel
theorem dX8_init_38 : decode cX8_init 38 = .ok (.aload_n 0, 1) := by decide +kernel
theorem dX8_init_39 : decode cX8_init 39 = .ok (.iconst 0, 1) := by decide +kernel
theorem dX8_init_40 : decode cX8_init 40 = .ok (.putfield 32, 3) := by decide +kernel
theorem dX8_init_43 : decode cX8_init 43 = .ok (.return_, 1) := by decide +kernel
theorem dX8_begin_0 : decode cX8_begin 0 = .ok (.aload_n 0, 1) := by decide +kernel
theorem dX8_begin_1 : decode cX8_begin 1 = .ok (.iconst 0, 1) := by decide +kernel
theorem dX8_begin_2 : decode cX8_begin 2 = .ok (.putfield 15, 3) := by decide +kernel
theorem dX8_begin_5 : decode cX8_begin 5 = .ok (.aload_n 0, 1) := by decide +kernel
theorem dX8_begin_6 : decode cX8_begin 6 = .ok (.iconst 1, 1) := by decide +kernel
theorem dX8_begin_7 : decode cX8_begin 7 = .ok (.putfield 19, 3) := by decide +kernel
theorem dX8_begin_10 : decode cX8_begin 10 = .ok (.aload_n 0, 1) := by decide +kernel
theorem dX8_begin_11 : decode cX8_begin 11 = .ok (.iconst 0, 1) := by decide +kernel
theorem dX8_begin_12 : decode cX8_begin 12 = .ok (.putfield 32, 3) := by decide +kernel
theorem dX8_begin_15 : decode cX8_begin 15 = .ok (.return_, 1) := by decide +kernel
theorem dX8_take_0 : decode cX8_take 0 = .ok (.iload_n 1, 1) := by decide +kernel
theorem dX8_take_1 : decode cX8_take 1 = .ok (.invokestatic 36, 3) := by decide +kernel
theorem dX8_take_4 : decode cX8_take 4 = .ok (.ifCond .eq 25, 3) := by decide +kernel
theorem dX8_take_7 : decode cX8_take 7 = .ok (.aload_n 0, 1) := by decide +kernel
theorem dX8_take_8 : decode cX8_take 8 = .ok (.aload_n 0, 1) := by decide +kernel
theorem dX8_take_9 : decode cX8_take 9 = .ok (.getfield 29, 3) := by decide +kernel
theorem dX8_take_12 : decode cX8_take 12 = .ok (.bipush 10, 2) := by decide +kernel
theorem dX8_take_14 : decode cX8_take 14 = .ok (.imul, 1) := by decide +kernel
theorem dX8_take_15 : decode cX8_take 15 = .ok (.iload_n 1, 1) := by decide +kernel
theorem dX8_take_16 : decode cX8_take 16 = .ok (.bipush 48, 2) := by decide +kernel
theorem dX8_take_18 : decode cX8_take 18 = .ok (.isub, 1) := by decide +kernel
theorem dX8_take_19 : decode cX8_take 19 = .ok (.iadd, 1) := by decide +kernel
theorem dX8_take_20 : decode cX8_take 20 = .ok (.putfield 29, 3) := by decide +kernel
theorem dX8_take_23 : decode cX8_take 23 = .ok (.aload_n 0, 1) := by decide +kernel
theorem dX8_take_24 : decode cX8_take 24 = .ok (.iconst 1, 1) := by decide +kernel
theorem dX8_take_25 : decode cX8_take 25 = .ok (.putfield 32, 3) := by decide +kernel
theorem dX8_take_28 : decode cX8_take 28 = .ok (.return_, 1) := by decide +kernel
theorem dX8_take_29 : decode cX8_take 29 = .ok (.aload_n 0, 1) := by decide +kernel
theorem dX8_take_30 : decode cX8_take 30 = .ok (.invokevirtual 42, 3) := by decide +kernel
theorem dX8_take_33 : decode cX8_take 33 = .ok (.iload_n 1, 1) := by decide +kernel
theorem dX8_take_34 : decode cX8_take 34 = .ok (.invokestatic 45, 3) := by decide +kernel
theorem dX8_take_37 : decode cX8_take 37 = .ok (.ifCond .eq 15, 3) := by decide +kernel
theorem dX8_take_40 : decode cX8_take 40 = .ok (.aload_n 0, 1) := by decide +kernel
theorem dX8_take_41 : decode cX8_take 41 = .ok (.aload_n 0, 1) := by decide +kernel
theorem dX8_take_42 : decode cX8_take 42 = .ok (.iload_n 1, 1) := by decide +kernel
theorem dX8_take_43 : decode cX8_take 43 = .ok (.invokevirtual 48, 3) := by decide +kernel
theorem dX8_take_46 : decode cX8_take 46 = .ok (.putfield 22, 3) := by decide +kernel
theorem dX8_take_49 : decode cX8_take 49 = .ok (.goto 39, 3) := by decide +kernel
theorem dX8_take_52 : decode cX8_take 52 = .ok (.iload_n 1, 1) := by decide +kernel
theorem dX8_take_53 : decode cX8_take 53 = .ok (.bipush 60, 2) := by decide +kernel
theorem dX8_take_55 : decode cX8_take 55 = .ok (.if_icmp .eq 15, 3) := by decide +kernel
theorem dX8_take_58 : decode cX8_take 58 = .ok (.iload_n 1, 1) := by decide +kernel
theorem dX8_take_59 : decode cX8_take 59 = .ok (.bipush 62, 2) := by decide +kernel
theorem dX8_take_61 : decode cX8_take 61 = .ok (.if_icmp .eq 9, 3) := by decide +kernel
theorem dX8_take_64 : decode cX8_take 64 = .ok (.iload_n 1, 1) := by decide +kernel
theorem dX8_take_65 : decode cX8_take 65 = .ok (.bipush 61, 2) := by decide +kernel
theorem dX8_take_67 : decode cX8_take 67 = .ok (.if_icmp .ne 16, 3) := by decide +kernel
theorem dX8_take_70 : decode cX8_take 70 = .ok (.aload_n 0, 1) := by decide +kernel
theorem dX8_take_71 : decode cX8_take 71 = .ok (.iload_n 1, 1) := by decide +kernel
theorem dX8_take_72 : decode cX8_take 72 = .ok (.putfield 25, 3) := by decide +kernel
theorem dX8_take_75 : decode cX8_take 75 = .ok (.aload_n 0, 1) := by decide +kernel
theorem dX8_take_76 : decode cX8_take 76 = .ok (.iconst 0, 1) := by decide +kernel
theorem dX8_take_77 : decode cX8_take 77 = .ok (.putfield 29, 3) := by decide +kernel
theorem dX8_take_80 : decode cX8_take 80 = .ok (.goto 8, 3) := by decide +kernel
theorem dX8_take_83 : decode cX8_take 83 = .ok (.aload_n 0, 1) := by decide +kernel
theorem dX8_take_84 : decode cX8_take 84 = .ok (.iload_n 1, 1) := by decide +kernel
theorem dX8_take_85 : decode cX8_take 85 = .ok (.invokevirtual 52, 3) := by decide +kernel
theorem dX8_take_88 : decode cX8_take 88 = .ok (.return_, 1) := by decide +kernel
theorem dX8_result_0 : decode cX8_result 0 = .ok (.aload_n 0, 1) := by decide +kernel
theorem dX8_result_1 : decode cX8_result 1 = .ok (.invokevirtual 42, 3) := by decide +kernel
theorem dX8_result_4 : decode cX8_result 4 = .ok (.aload_n 0, 1) := by decide +kernel
theorem dX8_result_5 : decode cX8_result 5 = .ok (.invokevirtual 56, 3) := by decide +kernel
theorem dX8_result_8 : decode cX8_result 8 = .ok (.ireturn, 1) := by decide +kernel
theorem dX8_takeJoint_0 : decode cX8_takeJoint 0 = .ok (.iload_n 1, 1) := by decide +kernel
theorem dX8_takeJoint_1 : decode cX8_takeJoint 1 = .ok (.bipush 40, 2) := by decide +kernel
theorem dX8_takeJoint_3 : decode cX8_takeJoint 3 = .ok (.if_icmp .ne 28, 3) := by decide +kernel
theorem dX8_takeJoint_6 : decode cX8_takeJoint 6 = .ok (.aload_n 0, 1) := by decide +kernel
theorem dX8_takeJoint_7 : decode cX8_takeJoint 7 = .ok (.aload_n 0, 1) := by decide +kernel
theorem dX8_takeJoint_8 : decode cX8_takeJoint 8 = .ok (.getfield 15, 3) := by decide +kernel
theorem dX8_takeJoint_11 : decode cX8_takeJoint 11 = .ok (.iconst 1, 1) := by decide +kernel
theorem dX8_takeJoint_12 : decode cX8_takeJoint 12 = .ok (.ishl, 1) := by decide +kernel
theorem dX8_takeJoint_13 : decode cX8_takeJoint 13 = .ok (.putfield 15, 3) := by decide +kernel
theorem dX8_takeJoint_16 : decode cX8_takeJoint 16 = .ok (.aload_n 0, 1) := by decide +kernel
theorem dX8_takeJoint_17 : decode cX8_takeJoint 17 = .ok (.aload_n 0, 1) := by decide +kernel
theorem dX8_takeJoint_18 : decode cX8_takeJoint 18 = .ok (.getfield 19, 3) := by decide +kernel
theorem dX8_takeJoint_21 : decode cX8_takeJoint 21 = .ok (.iconst 1, 1) := by decide +kernel
theorem dX8_takeJoint_22 : decode cX8_takeJoint 22 = .ok (.ishl, 1) := by decide +kernel
theorem dX8_takeJoint_23 : decode cX8_takeJoint 23 = .ok (.iconst 1, 1) := by decide +kernel
theorem dX8_takeJoint_24 : decode cX8_takeJoint 24 = .ok (.ior, 1) := by decide +kernel
theorem dX8_takeJoint_25 : decode cX8_takeJoint 25 = .ok (.putfield 19, 3) := by decide +kernel
theorem dX8_takeJoint_28 : decode cX8_takeJoint 28 = .ok (.goto 73, 3) := by decide +kernel
theorem dX8_takeJoint_31 : decode cX8_takeJoint 31 = .ok (.iload_n 1, 1) := by decide +kernel
theorem dX8_takeJoint_32 : decode cX8_takeJoint 32 = .ok (.bipush 41, 2) := by decide +kernel
theorem dX8_takeJoint_34 : decode cX8_takeJoint 34 = .ok (.if_icmp .ne 36, 3) := by decide +kernel
theorem dX8_takeJoint_37 : decode cX8_takeJoint 37 = .ok (.aload_n 0, 1) := by decide +kernel
theorem dX8_takeJoint_38 : decode cX8_takeJoint 38 = .ok (.invokevirtual 56, 3) := by decide +kernel
theorem dX8_takeJoint_41 : decode cX8_takeJoint 41 = .ok (.istore_n 2, 1) := by decide +kernel
theorem dX8_takeJoint_42 : decode cX8_takeJoint 42 = .ok (.aload_n 0, 1) := by decide +kernel
theorem dX8_takeJoint_43 : decode cX8_takeJoint 43 = .ok (.aload_n 0, 1) := by decide +kernel
theorem dX8_takeJoint_44 : decode cX8_takeJoint 44 = .ok (.getfield 15, 3) := by decide +kernel
theorem dX8_takeJoint_47 : decode cX8_takeJoint 47 = .ok (.iconst 1, 1) := by decide +kernel
theorem dX8_takeJoint_48 : decode cX8_takeJoint 48 = .ok (.iushr, 1) := by decide +kernel
theorem dX8_takeJoint_49 : decode cX8_takeJoint 49 = .ok (.putfield 15, 3) := by decide +kernel
theorem dX8_takeJoint_52 : decode cX8_takeJoint 52 = .ok (.aload_n 0, 1) := by decide +kernel
theorem dX8_takeJoint_53 : decode cX8_takeJoint 53 = .ok (.aload_n 0, 1) := by decide +kernel
theorem dX8_takeJoint_54 : decode cX8_takeJoint 54 = .ok (.getfield 19, 3) := by decide +kernel
theorem dX8_takeJoint_57 : decode cX8_takeJoint 57 = .ok (.iconst 1, 1) := by decide +kernel
theorem dX8_takeJoint_58 : decode cX8_takeJoint 58 = .ok (.iushr, 1) := by decide +kernel
theorem dX8_takeJoint_59 : decode cX8_takeJoint 59 = .ok (.putfield 19, 3) := by decide +kernel
theorem dX8_takeJoint_62 : decode cX8_takeJoint 62 = .ok (.aload_n 0, 1) := by decide +kernel
theorem dX8_takeJoint_63 : decode cX8_takeJoint 63 = .ok (.iload_n 2, 1) := by decide +kernel
theorem dX8_takeJoint_64 : decode cX8_takeJoint 64 = .ok (.invokevirtual 60, 3) := by decide +kernel
theorem dX8_takeJoint_67 : decode cX8_takeJoint 67 = .ok (.goto 34, 3) := by decide +kernel
theorem dX8_takeJoint_70 : decode cX8_takeJoint 70 = .ok (.iload_n 1, 1) := by decide +kernel
theorem dX8_takeJoint_71 : decode cX8_takeJoint 71 = .ok (.bipush 124, 2) := by decide +kernel
theorem dX8_takeJoint_73 : decode cX8_takeJoint 73 = .ok (.if_icmp .ne 28, 3) := by decide +kernel
theorem dX8_takeJoint_76 : decode cX8_takeJoint 76 = .ok (.aload_n 0, 1) := by decide +kernel
theorem dX8_takeJoint_77 : decode cX8_takeJoint 77 = .ok (.aload_n 0, 1) := by decide +kernel
theorem dX8_takeJoint_78 : decode cX8_takeJoint 78 = .ok (.getfield 15, 3) := by decide +kernel
theorem dX8_takeJoint_81 : decode cX8_takeJoint 81 = .ok (.aload_n 0, 1) := by decide +kernel
theorem dX8_takeJoint_82 : decode cX8_takeJoint 82 = .ok (.getfield 19, 3) := by decide +kernel
theorem dX8_takeJoint_85 : decode cX8_takeJoint 85 = .ok (.iconst 1, 1) := by decide +kernel
theorem dX8_takeJoint_86 : decode cX8_takeJoint 86 = .ok (.iand, 1) := by decide +kernel
theorem dX8_takeJoint_87 : decode cX8_takeJoint 87 = .ok (.ior, 1) := by decide +kernel
theorem dX8_takeJoint_88 : decode cX8_takeJoint 88 = .ok (.putfield 15, 3) := by decide +kernel
theorem dX8_takeJoint_91 : decode cX8_takeJoint 91 = .ok (.aload_n 0, 1) := by decide +kernel
theorem dX8_takeJoint_92 : decode cX8_takeJoint 92 = .ok (.aload_n 0, 1) := by decide +kernel
theorem dX8_takeJoint_93 : decode cX8_takeJoint 93 = .ok (.getfield 19, 3) := by decide +kernel
theorem dX8_takeJoint_96 : decode cX8_takeJoint 96 = .ok (.iconst 1, 1) := by decide +kernel
theorem dX8_takeJoint_97 : decode cX8_takeJoint 97 = .ok (.ior, 1) := by decide +kernel
theorem dX8_takeJoint_98 : decode cX8_takeJoint 98 = .ok (.putfield 19, 3) := by decide +kernel
theorem dX8_takeJoint_101 : decode cX8_takeJoint 101 = .ok (.return_, 1) := by decide +kernel
theorem dX8_settleNumber_0 : decode cX8_settleNumber 0 = .ok (.aload_n 0, 1) := by decide +kernel
theorem dX8_settleNumber_1 : decode cX8_settleNumber 1 = .ok (.getfield 32, 3) := by decide +kernel
theorem dX8_settleNumber_4 : decode cX8_settleNumber 4 = .ok (.ifCond .eq 16, 3) := by decide +kernel
theorem dX8_settleNumber_7 : decode cX8_settleNumber 7 = .ok (.aload_n 0, 1) := by decide +kernel
theorem dX8_settleNumber_8 : decode cX8_settleNumber 8 = .ok (.iconst 0, 1) := by decide +kernel
theorem dX8_settleNumber_9 : decode cX8_settleNumber 9 = .ok (.putfield 32, 3) := by decide +kernel
theorem dX8_settleNumber_12 : decode cX8_settleNumber 12 = .ok (.aload_n 0, 1) := by decide +kernel
theorem dX8_settleNumber_13 : decode cX8_settleNumber 13 = .ok (.aload_n 0, 1) := by decide +kernel
theorem dX8_settleNumber_14 : decode cX8_settleNumber 14 = .ok (.invokevirtual 64, 3) := by decide +kernel
theorem dX8_settleNumber_17 : decode cX8_settleNumber 17 = .ok (.invokevirtual 60, 3) := by decide +kernel
theorem dX8_settleNumber_20 : decode cX8_settleNumber 20 = .ok (.return_, 1) := by decide +kernel
theorem dX8_compares_0 : decode cX8_compares 0 = .ok (.aload_n 0, 1) := by decide +kernel
theorem dX8_compares_1 : decode cX8_compares 1 = .ok (.getfield 25, 3) := by decide +kernel
theorem dX8_compares_4 : decode cX8_compares 4 = .ok (.bipush 60, 2) := by decide +kernel
theorem dX8_compares_6 : decode cX8_compares 6 = .ok (.if_icmp .ne 20, 3) := by decide +kernel
theorem dX8_compares_9 : decode cX8_compares 9 = .ok (.aload_n 0, 1) := by decide +kernel
theorem dX8_compares_10 : decode cX8_compares 10 = .ok (.getfield 22, 3) := by decide +kernel
theorem dX8_compares_13 : decode cX8_compares 13 = .ok (.aload_n 0, 1) := by decide +kernel
theorem dX8_compares_14 : decode cX8_compares 14 = .ok (.getfield 29, 3) := by decide +kernel
theorem dX8_compares_17 : decode cX8_compares 17 = .ok (.if_icmp .ge 7, 3) := by decide +kernel
theorem dX8_compares_20 : decode cX8_compares 20 = .ok (.iconst 1, 1) := by decide +kernel
theorem dX8_compares_21 : decode cX8_compares 21 = .ok (.goto 4, 3) := by decide +kernel
theorem dX8_compares_24 : decode cX8_compares 24 = .ok (.iconst 0, 1) := by decide +kernel
theorem dX8_compares_25 : decode cX8_compares 25 = .ok (.ireturn, 1) := by decide +kernel
theorem dX8_compares_26 : decode cX8_compares 26 = .ok (.aload_n 0, 1) := by decide +kernel
theorem dX8_compares_27 : decode cX8_compares 27 = .ok (.getfield 25, 3) := by decide +kernel
theorem dX8_compares_30 : decode cX8_compares 30 = .ok (.bipush 62, 2) := by decide +kernel
theorem dX8_compares_32 : decode cX8_compares 32 = .ok (.if_icmp .ne 22, 3) := by decide +kernel
theorem dX8_compares_35 : decode cX8_compares 35 = .ok (.aload_n 0, 1) := by decide +kernel
theorem dX8_compares_36 : decode cX8_compares 36 = .ok (.getfield 22, 3) := by decide +kernel
theorem dX8_compares_39 : decode cX8_compares 39 = .ok (.aload_n 0, 1) := by decide +kernel
theorem dX8_compares_40 : decode cX8_compares 40 = .ok (.getfield 29, 3) := by decide +kernel
theorem dX8_compares_43 : decode cX8_compares 43 = .ok (.if_icmp .le 7, 3) := by decide +kernel
theorem dX8_compares_46 : decode cX8_compares 46 = .ok (.iconst 1, 1) := by decide +kernel
theorem dX8_compares_47 : decode cX8_compares 47 = .ok (.goto 23, 3) := by decide +kernel
theorem dX8_compares_50 : decode cX8_compares 50 = .ok (.iconst 0, 1) := by decide +kernel
theorem dX8_compares_51 : decode cX8_compares 51 = .ok (.goto 19, 3) := by decide +kernel
theorem dX8_compares_54 : decode cX8_compares 54 = .ok (.aload_n 0, 1) := by decide +kernel
theorem dX8_compares_55 : decode cX8_compares 55 = .ok (.getfield 22, 3) := by decide +kernel
theorem dX8_compares_58 : decode cX8_compares 58 = .ok (.aload_n 0, 1) := by decide +kernel
theorem dX8_compares_59 : decode cX8_compares 59 = .ok (.getfield 29, 3) := by decide +kernel
theorem dX8_compares_62 : decode cX8_compares 62 = .ok (.if_icmp .ne 7, 3) := by decide +kernel
theorem dX8_compares_65 : decode cX8_compares 65 = .ok (.iconst 1, 1) := by decide +kernel
theorem dX8_compares_66 : decode cX8_compares 66 = .ok (.goto 4, 3) := by decide +kernel
theorem dX8_compares_69 : decode cX8_compares 69 = .ok (.iconst 0, 1) := by decide +kernel
theorem dX8_compares_70 : decode cX8_compares 70 = .ok (.ireturn, 1) := by decide +kernel
theorem dX8_countUnit_0 : decode cX8_countUnit 0 = .ok (.iload_n 1, 1) := by decide +kernel
theorem dX8_countUnit_1 : decode cX8_countUnit 1 = .ok (.ifCond .ne 14, 3) := by decide +kernel
theorem dX8_countUnit_4 : decode cX8_countUnit 4 = .ok (.aload_n 0, 1) := by decide +kernel
theorem dX8_countUnit_5 : decode cX8_countUnit 5 = .ok (.aload_n 0, 1) := by decide +kernel
theorem dX8_countUnit_6 : decode cX8_countUnit 6 = .ok (.getfield 19, 3) := by decide +kernel
theorem dX8_countUnit_9 : decode cX8_countUnit 9 = .ok (.bipush (-2), 2) := by decide +kernel
theorem dX8_countUnit_11 : decode cX8_countUnit 11 = .ok (.iand, 1) := by decide +kernel
theorem dX8_countUnit_12 : decode cX8_countUnit 12 = .ok (.putfield 19, 3) := by decide +kernel
theorem dX8_countUnit_15 : decode cX8_countUnit 15 = .ok (.return_, 1) := by decide +kernel
theorem dX8_holdsHere_0 : decode cX8_holdsHere 0 = .ok (.aload_n 0, 1) := by decide +kernel
theorem dX8_holdsHere_1 : decode cX8_holdsHere 1 = .ok (.getfield 15, 3) := by decide +kernel
theorem dX8_holdsHere_4 : decode cX8_holdsHere 4 = .ok (.aload_n 0, 1) := by decide +kernel
theorem dX8_holdsHere_5 : decode cX8_holdsHere 5 = .ok (.getfield 19, 3) := by decide +kernel
theorem dX8_holdsHere_8 : decode cX8_holdsHere 8 = .ok (.ior, 1) := by decide +kernel
theorem dX8_holdsHere_9 : decode cX8_holdsHere 9 = .ok (.iconst 1, 1) := by decide +kernel
theorem dX8_holdsHere_10 : decode cX8_holdsHere 10 = .ok (.iand, 1) := by decide +kernel
theorem dX8_holdsHere_11 : decode cX8_holdsHere 11 = .ok (.ifCond .eq 7, 3) := by decide +kernel
theorem dX8_holdsHere_14 : decode cX8_holdsHere 14 = .ok (.iconst 1, 1) := by decide +kernel
theorem dX8_holdsHere_15 : decode cX8_holdsHere 15 = .ok (.goto 4, 3) := by decide +kernel
theorem dX8_holdsHere_18 : decode cX8_holdsHere 18 = .ok (.iconst 0, 1) := by decide +kernel
theorem dX8_holdsHere_19 : decode cX8_holdsHere 19 = .ok (.ireturn, 1) := by decide +kernel
theorem dX8_valueOfWord_0 : decode cX8_valueOfWord 0 = .ok (.iload_n 1, 1) := by decide +kernel
theorem dX8_valueOfWord_1 : decode cX8_valueOfWord 1 = .ok (.lookupswitch 105 #[(100, 70), (102, 91), (108, 84), (109, 98), (119, 77), (121, 59)], 59) := by decide +kernel
theorem dX8_valueOfWord_60 : decode cX8_valueOfWord 60 = .ok (.aload_n 0, 1) := by decide +kernel
theorem dX8_valueOfWord_61 : decode cX8_valueOfWord 61 = .ok (.getfield 9, 3) := by decide +kernel
theorem dX8_valueOfWord_64 : decode cX8_valueOfWord 64 = .ok (.iconst 0, 1) := by decide +kernel
theorem dX8_valueOfWord_65 : decode cX8_valueOfWord 65 = .ok (.iaload, 1) := by decide +kernel
theorem dX8_valueOfWord_66 : decode cX8_valueOfWord 66 = .ok (.sipush 360, 3) := by decide +kernel
theorem dX8_valueOfWord_69 : decode cX8_valueOfWord 69 = .ok (.idiv, 1) := by decide +kernel
theorem dX8_valueOfWord_70 : decode cX8_valueOfWord 70 = .ok (.ireturn, 1) := by decide +kernel
theorem dX8_valueOfWord_71 : decode cX8_valueOfWord 71 = .ok (.aload_n 0, 1) := by decide +kernel
theorem dX8_valueOfWord_72 : decode cX8_valueOfWord 72 = .ok (.getfield 9, 3) := by decide +kernel
theorem dX8_valueOfWord_75 : decode cX8_valueOfWord 75 = .ok (.iconst 0, 1) := by decide +kernel
theorem dX8_valueOfWord_76 : decode cX8_valueOfWord 76 = .ok (.iaload, 1) := by decide +kernel
theorem dX8_valueOfWord_77 : decode cX8_valueOfWord 77 = .ok (.ireturn, 1) := by decide +kernel
theorem dX8_valueOfWord_78 : decode cX8_valueOfWord 78 = .ok (.aload_n 0, 1) := by decide +kernel
theorem dX8_valueOfWord_79 : decode cX8_valueOfWord 79 = .ok (.getfield 9, 3) := by decide +kernel
theorem dX8_valueOfWord_82 : decode cX8_valueOfWord 82 = .ok (.iconst 1, 1) := by decide +kernel
theorem dX8_valueOfWord_83 : decode cX8_valueOfWord 83 = .ok (.iaload, 1) := by decide +kernel
theorem dX8_valueOfWord_84 : decode cX8_valueOfWord 84 = .ok (.ireturn, 1) := by decide +kernel
theorem dX8_valueOfWord_85 : decode cX8_valueOfWord 85 = .ok (.aload_n 0, 1) := by decide +kernel
theorem dX8_valueOfWord_86 : decode cX8_valueOfWord 86 = .ok (.getfield 9, 3) := by decide +kernel
theorem dX8_valueOfWord_89 : decode cX8_valueOfWord 89 = .ok (.iconst 2, 1) := by decide +kernel
theorem dX8_valueOfWord_90 : decode cX8_valueOfWord 90 = .ok (.iaload, 1) := by decide +kernel
theorem dX8_valueOfWord_91 : decode cX8_valueOfWord 91 = .ok (.ireturn, 1) := by decide +kernel
theorem dX8_valueOfWord_92 : decode cX8_valueOfWord 92 = .ok (.aload_n 0, 1) := by decide +kernel
theorem dX8_valueOfWord_93 : decode cX8_valueOfWord 93 = .ok (.getfield 9, 3) := by decide +kernel
theorem dX8_valueOfWord_96 : decode cX8_valueOfWord 96 = .ok (.iconst 3, 1) := by decide +kernel
theorem dX8_valueOfWord_97 : decode cX8_valueOfWord 97 = .ok (.iaload, 1) := by decide +kernel
theorem dX8_valueOfWord_98 : decode cX8_valueOfWord 98 = .ok (.ireturn, 1) := by decide +kernel
theorem dX8_valueOfWord_99 : decode cX8_valueOfWord 99 = .ok (.aload_n 0, 1) := by decide +kernel
theorem dX8_valueOfWord_100 : decode cX8_valueOfWord 100 = .ok (.getfield 9, 3) := by decide +kernel
theorem dX8_valueOfWord_103 : decode cX8_valueOfWord 103 = .ok (.iconst 4, 1) := by decide +kernel
theorem dX8_valueOfWord_104 : decode cX8_valueOfWord 104 = .ok (.iaload, 1) := by decide +kernel
theorem dX8_valueOfWord_105 : decode cX8_valueOfWord 105 = .ok (.ireturn, 1) := by decide +kernel
theorem dX8_valueOfWord_106 : decode cX8_valueOfWord 106 = .ok (.aload_n 0, 1) := by decide +kernel
theorem dX8_valueOfWord_107 : decode cX8_valueOfWord 107 = .ok (.getfield 9, 3) := by decide +kernel
theorem dX8_valueOfWord_110 : decode cX8_valueOfWord 110 = .ok (.iconst 5, 1) := by decide +kernel
theorem dX8_valueOfWord_111 : decode cX8_valueOfWord 111 = .ok (.iaload, 1) := by decide +kernel
theorem dX8_valueOfWord_112 : decode cX8_valueOfWord 112 = .ok (.ireturn, 1) := by decide +kernel
theorem dX9_init_0 : decode cX9_init 0 = .ok (.aload_n 0, 1) := by decide +kernel
theorem dX9_init_1 : decode cX9_init 1 = .ok (.invokespecial 1, 3) := by decide +kernel
theorem dX9_init_4 : decode cX9_init 4 = .ok (.aload_n 0, 1) := by decide +kernel
theorem dX9_init_5 : decode cX9_init 5 = .ok (.new 7, 3) := by decide +kernel
theorem dX9_init_8 : decode cX9_init 8 = .ok (.dup, 1) := by decide +kernel
theorem dX9_init_9 : decode cX9_init 9 = .ok (.invokespecial 9, 3) := by decide +kernel
theorem dX9_init_12 : decode cX9_init 12 = .ok (.putfield 10, 3) := by decide +kernel
theorem dX9_init_15 : decode cX9_init 15 = .ok (.aload_n 0, 1) := by decide +kernel
theorem dX9_init_16 : decode cX9_init 16 = .ok (.new 16, 3) := by decide +kernel
theorem dX9_init_19 : decode cX9_init 19 = .ok (.dup, 1) := by decide +kernel
theorem dX9_init_20 : decode cX9_init 20 = .ok (.invokespecial 18, 3) := by decide +kernel
theorem dX9_init_23 : decode cX9_init 23 = .ok (.putfield 19, 3) := by decide +kernel
theorem dX9_init_26 : decode cX9_init 26 = .ok (.aload_n 0, 1) := by decide +kernel
theorem dX9_init_27 : decode cX9_init 27 = .ok (.new 23, 3) := by decide +kernel
theorem dX9_init_30 : decode cX9_init 30 = .ok (.dup, 1) := by decide +kernel
theorem dX9_init_31 : decode cX9_init 31 = .ok (.invokespecial 25, 3) := by decide +kernel
theorem dX9_init_34 : decode cX9_init 34 = .ok (.putfield 26, 3) := by decide +kernel
theorem dX9_init_37 : decode cX9_init 37 = .ok (.aload_n 0, 1) := by decide +kernel
theorem dX9_init_38 : decode cX9_init 38 = .ok (.new 30, 3) := by decide +kernel
theorem dX9_init_41 : decode cX9_init 41 = .ok (.dup, 1) := by decide +kernel
theorem dX9_init_42 : decode cX9_init 42 = .ok (.invokespecial 32, 3) := by decide +kernel
theorem dX9_init_45 : decode cX9_init 45 = .ok (.putfield 33, 3) := by decide +kernel
theorem dX9_init_48 : decode cX9_init 48 = .ok (.aload_n 0, 1) := by decide +kernel
theorem dX9_init_49 : decode cX9_init 49 = .ok (.new 37, 3) := by decide +kernel
theorem dX9_init_52 : decode cX9_init 52 = .ok (.dup, 1) := by decide +kernel
theorem dX9_init_53 : decode cX9_init 53 = .ok (.invokespecial 39, 3) := by decide +kernel
theorem dX9_init_56 : decode cX9_init 56 = .ok (.putfield 40, 3) := by decide +kernel
theorem dX9_init_59 : decode cX9_init 59 = .ok (.aload_n 0, 1) := by decide +kernel
theorem dX9_init_60 : decode cX9_init 60 = .ok (.new 44, 3) := by decide +kernel
theorem dX9_init_63 : decode cX9_init 63 = .ok (.dup, 1) := by decide +kernel
theorem dX9_init_64 : decode cX9_init 64 = .ok (.invokespecial 46, 3) := by decide +kernel
theorem dX9_init_67 : decode cX9_init 67 = .ok (.putfield 47, 3) := by decide +kernel
theorem dX9_init_70 : decode cX9_init 70 = .ok (.aload_n 0, 1) := by decide +kernel
theorem dX9_init_71 : decode cX9_init 71 = .ok (.new 51, 3) := by decide +kernel
theorem dX9_init_74 : decode cX9_init 74 = .ok (.dup, 1) := by decide +kernel
theorem dX9_init_75 : decode cX9_init 75 = .ok (.invokespecial 53, 3) := by decide +kernel
theorem dX9_init_78 : decode cX9_init 78 = .ok (.putfield 54, 3) := by decide +kernel
theorem dX9_init_81 : decode cX9_init 81 = .ok (.aload_n 0, 1) := by decide +kernel
theorem dX9_init_82 : decode cX9_init 82 = .ok (.new 58, 3) := by decide +kernel
theorem dX9_init_85 : decode cX9_init 85 = .ok (.dup, 1) := by decide +kernel
theorem dX9_init_86 : decode cX9_init 86 = .ok (.invokespecial 60, 3) := by decide +kernel
theorem dX9_init_89 : decode cX9_init 89 = .ok (.putfield 61, 3) := by decide +kernel
theorem dX9_init_92 : decode cX9_init 92 = .ok (.aload_n 0, 1) := by decide +kernel
theorem dX9_init_93 : decode cX9_init 93 = .ok (.bipush 30, 2) := by decide +kernel
theorem dX9_init_95 : decode cX9_init 95 = .ok (.newarray .int, 2) := by decide +kernel
theorem dX9_init_97 : decode cX9_init 97 = .ok (.putfield 65, 3) := by decide +kernel
theorem dX9_init_100 : decode cX9_init 100 = .ok (.aload_n 0, 1) := by decide +kernel
theorem dX9_init_101 : decode cX9_init 101 = .ok (.new 69, 3) := by decide +kernel
theorem dX9_init_104 : decode cX9_init 104 = .ok (.dup, 1) := by decide +kernel
theorem dX9_init_105 : decode cX9_init 105 = .ok (.invokespecial 71, 3) := by decide +kernel
theorem dX9_init_108 : decode cX9_init 108 = .ok (.putfield 72, 3) := by decide +kernel
theorem dX9_init_111 : decode cX9_init 111 = .ok (.aload_n 0, 1) := by decide +kernel
theorem dX9_init_112 : decode cX9_init 112 = .ok (.bipush 30, 2) := by decide +kernel
theorem dX9_init_114 : decode cX9_init 114 = .ok (.newarray .int, 2) := by decide +kernel
theorem dX9_init_116 : decode cX9_init 116 = .ok (.putfield 76, 3) := by decide +kernel
theorem dX9_init_119 : decode cX9_init 119 = .ok (.aload_n 0, 1) := by decide +kernel
theorem dX9_init_120 : decode cX9_init 120 = .ok (.iconst 0, 1) := by decide +kernel
theorem dX9_init_121 : decode cX9_init 121 = .ok (.putfield 79, 3) := by decide +kernel
theorem dX9_init_124 : decode cX9_init 124 = .ok (.return_, 1) := by decide +kernel
theorem dX9_person_0 : decode cX9_person 0 = .ok (.aload_n 0, 1) := by decide +kernel
theorem dX9_person_1 : decode cX9_person 1 = .ok (.getfield 10, 3) := by decide +kernel
theorem dX9_person_4 : decode cX9_person 4 = .ok (.invokevirtual 83, 3) := by decide +kernel
theorem dX9_person_7 : decode cX9_person 7 = .ok (.ifCond .ne 25, 3) := by decide +kernel
theorem dX9_person_10 : decode cX9_person 10 = .ok (.aload_n 0, 1) := by decide +kernel
theorem dX9_person_11 : decode cX9_person 11 = .ok (.getfield 10, 3) := by decide +kernel
theorem dX9_person_14 : decode cX9_person 14 = .ok (.iload_n 1, 1) := by decide +kernel
theorem dX9_person_15 : decode cX9_person 15 = .ok (.invokevirtual 87, 3) := by decide +kernel
theorem dX9_person_18 : decode cX9_person 18 = .ok (.ifCond .eq 14, 3) := by decide +kernel
theorem dX9_person_21 : decode cX9_person 21 = .ok (.aload_n 0, 1) := by decide +kernel
theorem dX9_person_22 : decode cX9_person 22 = .ok (.getfield 10, 3) := by decide +kernel
theorem dX9_person_25 : decode cX9_person 25 = .ok (.iload_n 2, 1) := by decide +kernel
theorem dX9_person_26 : decode cX9_person 26 = .ok (.invokevirtual 87, 3) := by decide +kernel
theorem dX9_person_29 : decode cX9_person 29 = .ok (.ifCond .ne 5, 3) := by decide +kernel
theorem dX9_person_32 : decode cX9_person 32 = .ok (.iconst (-1), 1) := by decide +kernel
theorem dX9_person_33 : decode cX9_person 33 = .ok (.ireturn, 1) := by decide +kernel
theorem dX9_person_34 : decode cX9_person 34 = .ok (.aload_n 0, 1) := by decide +kernel
theorem dX9_person_35 : decode cX9_person 35 = .ok (.getfield 10, 3) := by decide +kernel
theorem dX9_person_38 : decode cX9_person 38 = .ok (.iload_n 1, 1) := by decide +kernel
theorem dX9_person_39 : decode cX9_person 39 = .ok (.iload_n 2, 1) := by decide +kernel
theorem dX9_person_40 : decode cX9_person 40 = .ok (.invokevirtual 91, 3) := by decide +kernel
theorem dX9_person_43 : decode cX9_person 43 = .ok (.ireturn, 1) := by decide +kernel
theorem dX9_master_0 : decode cX9_master 0 = .ok (.aload_n 0, 1) := by decide +kernel
theorem dX9_master_1 : decode cX9_master 1 = .ok (.getfield 10, 3) := by decide +kernel
theorem dX9_master_4 : decode cX9_master 4 = .ok (.iload_n 1, 1) := by decide +kernel
theorem dX9_master_5 : decode cX9_master 5 = .ok (.invokevirtual 95, 3) := by decide +kernel
theorem dX9_master_8 : decode cX9_master 8 = .ok (.ifCond .eq 14, 3) := by decide +kernel
theorem dX9_master_11 : decode cX9_master 11 = .ok (.aload_n 0, 1) := by decide +kernel
theorem dX9_master_12 : decode cX9_master 12 = .ok (.getfield 10, 3) := by decide +kernel
theorem dX9_master_15 : decode cX9_master 15 = .ok (.iload_n 1, 1) := by decide +kernel
theorem dX9_master_16 : decode cX9_master 16 = .ok (.invokevirtual 98, 3) := by decide +kernel
theorem dX9_master_19 : decode cX9_master 19 = .ok (.ifCond .eq 5, 3) := by decide +kernel
theorem dX9_master_22 : decode cX9_master 22 = .ok (.iconst 0, 1) := by decide +kernel
theorem dX9_master_23 : decode cX9_master 23 = .ok (.ireturn, 1) := by decide +kernel
theorem dX9_master_24 : decode cX9_master 24 = .ok (.aload_n 0, 1) := by decide +kernel
theorem dX9_master_25 : decode cX9_master 25 = .ok (.getfield 10, 3) := by decide +kernel
theorem dX9_master_28 : decode cX9_master 28 = .ok (.iload_n 1, 1) := by decide +kernel
theorem dX9_master_29 : decode cX9_master 29 = .ok (.aload_n 0, 1) := by decide +kernel
theorem dX9_master_30 : decode cX9_master 30 = .ok (.getfield 79, 3) := by decide +kernel
theorem dX9_master_33 : decode cX9_master 33 = .ok (.invokevirtual 101, 3) := by decide +kernel
theorem dX9_master_36 : decode cX9_master 36 = .ok (.iconst 1, 1) := by decide +kernel
theorem dX9_master_37 : decode cX9_master 37 = .ok (.ireturn, 1) := by decide +kernel
theorem dX9_death_0 : decode cX9_death 0 = .ok (.aload_n 0, 1) := by decide +kernel
theorem dX9_death_1 : decode cX9_death 1 = .ok (.getfield 10, 3) := by decide +kernel
theorem dX9_death_4 : decode cX9_death 4 = .ok (.iload_n 1, 1) := by decide +kernel
theorem dX9_death_5 : decode cX9_death 5 = .ok (.invokevirtual 98, 3) := by decide +kernel
theorem dX9_death_8 : decode cX9_death 8 = .ok (.ifCond .eq 8, 3) := by decide +kernel
theorem dX9_death_11 : decode cX9_death 11 = .ok (.iload_n 1, 1) := by decide +kernel
theorem dX9_death_12 : decode cX9_death 12 = .ok (.iload_n 2, 1) := by decide +kernel
theorem dX9_death_13 : decode cX9_death 13 = .ok (.if_icmp .ne 5, 3) := by decide +kernel
theorem dX9_death_16 : decode cX9_death 16 = .ok (.iconst 0, 1) := by decide +kernel
theorem dX9_death_17 : decode cX9_death 17 = .ok (.ireturn, 1) := by decide +kernel
theorem dX9_death_18 : decode cX9_death 18 = .ok (.iload_n 2, 1) := by decide +kernel
theorem dX9_death_19 : decode cX9_death 19 = .ok (.iconst (-1), 1) := by decide +kernel
theorem dX9_death_20 : decode cX9_death 20 = .ok (.if_icmp .eq 16, 3) := by decide +kernel
theorem dX9_death_23 : decode cX9_death 23 = .ok (.aload_n 0, 1) := by decide +kernel
theorem dX9_death_24 : decode cX9_death 24 = .ok (.getfield 10, 3) := by decide +kernel
theorem dX9_death_27 : decode cX9_death 27 = .ok (.iload_n 2, 1) := by decide +kernel
theorem dX9_death_28 : decode cX9_death 28 = .ok (.invokevirtual 98, 3) := by decide +kernel
theorem dX9_death_31 : decode cX9_death 31 = .ok (.ifCond .ne 5, 3) := by decide +kernel
theorem dX9_death_34 : decode cX9_death 34 = .ok (.iconst 0, 1) := by decide +kernel
theorem dX9_death_35 : decode cX9_death 35 = .ok (.ireturn, 1) := by decide +kernel
theorem dX9_death_36 : decode cX9_death 36 = .ok (.aload_n 0, 1) := by decide +kernel
theorem dX9_death_37 : decode cX9_death 37 = .ok (.getfield 10, 3) := by decide +kernel
theorem dX9_death_40 : decode cX9_death 40 = .ok (.iload_n 1, 1) := by decide +kernel
theorem dX9_death_41 : decode cX9_death 41 = .ok (.iload_n 2, 1) := by decide +kernel
theorem dX9_death_42 : decode cX9_death 42 = .ok (.aload_n 0, 1) := by decide +kernel
theorem dX9_death_43 : decode cX9_death 43 = .ok (.getfield 79, 3) := by decide +kernel
theorem dX9_death_46 : decode cX9_death 46 = .ok (.invokevirtual 105, 3) := by decide +kernel
theorem dX9_death_49 : decode cX9_death 49 = .ok (.iconst 1, 1) := by decide +kernel
theorem dX9_death_50 : decode cX9_death 50 = .ok (.ireturn, 1) := by decide +kernel
theorem dX9_days_0 : decode cX9_days 0 = .ok (.iload_n 1, 1) := by decide +kernel
theorem dX9_days_1 : decode cX9_days 1 = .ok (.invokestatic 109, 3) := by decide +kernel
theorem dX9_days_4 : decode cX9_days 4 = .ok (.ifCond .eq 15, 3) := by decide +kernel
theorem dX9_days_7 : decode cX9_days 7 = .ok (.aload_n 0, 1) := by decide +kernel
theorem dX9_days_8 : decode cX9_days 8 = .ok (.getfield 79, 3) := by decide +kernel
theorem dX9_days_11 : decode cX9_days 11 = .ok (.iload_n 1, 1) := by decide +kernel
theorem dX9_days_12 : decode cX9_days 12 = .ok (.iadd, 1) := by decide +kernel
theorem dX9_days_13 : decode cX9_days 13 = .ok (.sipush 20000, 3) := by decide +kernel
theorem dX9_days_16 : decode cX9_days 16 = .ok (.if_icmp .le 5, 3) := by decide +kernel
theorem dX9_days_19 : decode cX9_days 19 = .ok (.iconst (-1), 1) := by decide +kernel
theorem dX9_days_20 : decode cX9_days 20 = .ok (.ireturn, 1) := by decide +kernel
theorem dX9_days_21 : decode cX9_days 21 = .ok (.aload_n 0, 1) := by decide +kernel
theorem dX9_days_22 : decode cX9_days 22 = .ok (.dup, 1) := by decide +kernel
theorem dX9_days_23 : decode cX9_days 23 = .ok (.getfield 79, 3) := by decide +kernel
theorem dX9_days_26 : decode cX9_days 26 = .ok (.iload_n 1, 1) := by decide +kernel
theorem dX9_days_27 : decode cX9_days 27 = .ok (.iadd, 1) := by decide +kernel
theorem dX9_days_28 : decode cX9_days 28 = .ok (.putfield 79, 3) := by decide +kernel
theorem dX9_days_31 : decode cX9_days 31 = .ok (.aload_n 0, 1) := by decide +kernel
theorem dX9_days_32 : decode cX9_days 32 = .ok (.getfield 79, 3) := by decide +kernel
theorem dX9_days_35 : decode cX9_days 35 = .ok (.ireturn, 1) := by decide +kernel
theorem dX9_term_0 : decode cX9_term 0 = .ok (.aload_n 0, 1) := by decide +kernel
theorem dX9_term_1 : decode cX9_term 1 = .ok (.getfield 10, 3) := by decide +kernel
theorem dX9_term_4 : decode cX9_term 4 = .ok (.iload_n 1, 1) := by decide +kernel
theorem dX9_term_5 : decode cX9_term 5 = .ok (.invokevirtual 112, 3) := by decide +kernel
theorem dX9_term_8 : decode cX9_term 8 = .ok (.ifCond .eq 18, 3) := by decide +kernel
theorem dX9_term_11 : decode cX9_term 11 = .ok (.iload_n 1, 1) := by decide +kernel
theorem dX9_term_12 : decode cX9_term 12 = .ok (.iload_n 2, 1) := by decide +kernel
theorem dX9_term_13 : decode cX9_term 13 = .ok (.if_icmp .eq 13, 3) := by decide +kernel
theorem dX9_term_16 : decode cX9_term 16 = .ok (.aload_n 0, 1) := by decide +kernel
theorem dX9_term_17 : decode cX9_term 17 = .ok (.getfield 19, 3) := by decide +kernel
theorem dX9_term_20 : decode cX9_term 20 = .ok (.invokevirtual 115, 3) := by decide +kernel
theorem dX9_term_23 : decode cX9_term 23 = .ok (.ifCond .eq 5, 3) := by decide +kernel
theorem dX9_term_26 : decode cX9_term 26 = .ok (.iconst (-1), 1) := by decide +kernel
theorem dX9_term_27 : decode cX9_term 27 = .ok (.ireturn, 1) := by decide +kernel
theorem dX9_term_28 : decode cX9_term 28 = .ok (.iload_n 2, 1) := by decide +kernel
theorem dX9_term_29 : decode cX9_term 29 = .ok (.iconst (-1), 1) := by decide +kernel
theorem dX9_term_30 : decode cX9_term 30 = .ok (.if_icmp .eq 16, 3) := by decide +kernel
theorem dX9_term_33 : decode cX9_term 33 = .ok (.aload_n 0, 1) := by decide +kernel
theorem dX9_term_34 : decode cX9_term 34 = .ok (.getfield 10, 3) := by decide +kernel
theorem dX9_term_37 : decode cX9_term 37 = .ok (.iload_n 2, 1) := by decide +kernel
theorem dX9_term_38 : decode cX9_term 38 = .ok (.invokevirtual 112, 3) := by decide +kernel
theorem dX9_term_41 : decode cX9_term 41 = .ok (.ifCond .ne 5, 3) := by decide +kernel
theorem dX9_term_44 : decode cX9_term 44 = .ok (.iconst (-1), 1) := by decide +kernel
theorem dX9_term_45 : decode cX9_term 45 = .ok (.ireturn, 1) := by decide +kernel
theorem dX9_term_46 : decode cX9_term 46 = .ok (.iload_n 3, 1) := by decide +kernel
theorem dX9_term_47 : decode cX9_term 47 = .ok (.ifCond .lt 18, 3) := by decide +kernel
theorem dX9_term_50 : decode cX9_term 50 = .ok (.iload_n 3, 1) := by decide +kernel
theorem dX9_term_51 : decode cX9_term 51 = .ok (.iload 4, 2) := by decide +kernel
theorem dX9_term_53 : decode cX9_term 53 = .ok (.if_icmp .gt 12, 3) := by decide +kernel
theorem dX9_term_56 : decode cX9_term 56 = .ok (.iload 4, 2) := by decide +kernel
theorem dX9_term_58 : decode cX9_term 58 = .ok (.aload_n 0, 1) := by decide +kernel
theorem dX9_term_59 : decode cX9_term 59 = .ok (.getfield 79, 3) := by decide +kernel
theorem dX9_term_62 : decode cX9_term 62 = .ok (.if_icmp .le 5, 3) := by decide +kernel
theorem dX9_term_65 : decode cX9_term 65 = .ok (.iconst (-1), 1) := by decide +kernel
theorem dX9_term_66 : decode cX9_term 66 = .ok (.ireturn, 1) := by decide +kernel
theorem dX9_term_67 : decode cX9_term 67 = .ok (.aload_n 0, 1) := by decide +kernel
theorem dX9_term_68 : decode cX9_term 68 = .ok (.getfield 19, 3) := by decide +kernel
theorem dX9_term_71 : decode cX9_term 71 = .ok (.iload_n 1, 1) := by decide +kernel
theorem dX9_term_72 : decode cX9_term 72 = .ok (.iload_n 2, 1) := by decide +kernel
theorem dX9_term_73 : decode cX9_term 73 = .ok (.iload_n 3, 1) := by decide +kernel
theorem dX9_term_74 : decode cX9_term 74 = .ok (.iload 4, 2) := by decide +kernel
theorem dX9_term_76 : decode cX9_term 76 = .ok (.aload_n 0, 1) := by decide +kernel
theorem dX9_term_77 : decode cX9_term 77 = .ok (.getfield 79, 3) := by decide +kernel
theorem dX9_term_80 : decode cX9_term 80 = .ok (.invokevirtual 116, 3) := by decide +kernel
theorem dX9_term_83 : decode cX9_term 83 = .ok (.ireturn, 1) := by decide +kernel
theorem dX9_back_0 : decode cX9_back 0 = .ok (.aload_n 0, 1) := by decide +kernel
theorem dX9_back_1 : decode cX9_back 1 = .ok (.getfield 19, 3) := by decide +kernel
theorem dX9_back_4 : decode cX9_back 4 = .ok (.iload_n 1, 1) := by decide +kernel
theorem dX9_back_5 : decode cX9_back 5 = .ok (.invokevirtual 119, 3) := by decide +kernel
theorem dX9_back_8 : decode cX9_back 8 = .ok (.ifCond .eq 14, 3) := by decide +kernel
theorem dX9_back_11 : decode cX9_back 11 = .ok (.aload_n 0, 1) := by decide +kernel
theorem dX9_back_12 : decode cX9_back 12 = .ok (.getfield 19, 3) := by decide +kernel
theorem dX9_back_15 : decode cX9_back 15 = .ok (.iload_n 1, 1) := by decide +kernel
theorem dX9_back_16 : decode cX9_back 16 = .ok (.invokevirtual 120, 3) := by decide +kernel
theorem dX9_back_19 : decode cX9_back 19 = .ok (.ifCond .eq 5, 3) := by decide +kernel
theorem dX9_back_22 : decode cX9_back 22 = .ok (.iconst 0, 1) := by decide +kernel
theorem dX9_back_23 : decode cX9_back 23 = .ok (.ireturn, 1) := by decide +kernel
theorem dX9_back_24 : decode cX9_back 24 = .ok (.aload_n 0, 1) := by decide +kernel
theorem dX9_back_25 : decode cX9_back 25 = .ok (.getfield 19, 3) := by decide +kernel
theorem dX9_back_28 : decode cX9_back 28 = .ok (.iload_n 1, 1) := by decide +kernel
theorem dX9_back_29 : decode cX9_back 29 = .ok (.aload_n 0, 1) := by decide +kernel
theorem dX9_back_30 : decode cX9_back 30 = .ok (.getfield 79, 3) := by decide +kernel
theorem dX9_back_33 : decode cX9_back 33 = .ok (.invokevirtual 123, 3) := by decide +kernel
theorem dX9_back_36 : decode cX9_back 36 = .ok (.iconst 1, 1) := by decide +kernel
theorem dX9_back_37 : decode cX9_back 37 = .ok (.ireturn, 1) := by decide +kernel
theorem dX9_give_0 : decode cX9_give 0 = .ok (.aload_n 0, 1) := by decide +kernel
theorem dX9_give_1 : decode cX9_give 1 = .ok (.getfield 10, 3) := by decide +kernel
theorem dX9_give_4 : decode cX9_give 4 = .ok (.iload_n 1, 1) := by decide +kernel
theorem dX9_give_5 : decode cX9_give 5 = .ok (.invokevirtual 95, 3) := by decide +kernel
theorem dX9_give_8 : decode cX9_give 8 = .ok (.ifCond .eq 13, 3) := by decide +kernel
theorem dX9_give_11 : decode cX9_give 11 = .ok (.aload_n 0, 1) := by decide +kernel
theorem dX9_give_12 : decode cX9_give 12 = .ok (.getfield 26, 3) := by decide +kernel
theorem dX9_give_15 : decode cX9_give 15 = .ok (.invokevirtual 126, 3) := by decide +kernel
theorem dX9_give_18 : decode cX9_give 18 = .ok (.ifCond .eq 5, 3) := by decide +kernel
theorem dX9_give_21 : decode cX9_give 21 = .ok (.iconst 0, 1) := by decide +kernel
theorem dX9_give_22 : decode cX9_give 22 = .ok (.ireturn, 1) := by decide +kernel
theorem dX9_give_23 : decode cX9_give 23 = .ok (.iload_n 2, 1) := by decide +kernel
theorem dX9_give_24 : decode cX9_give 24 = .ok (.ifCond .lt 20, 3) := by decide +kernel
theorem dX9_give_27 : decode cX9_give 27 = .ok (.iload_n 2, 1) := by decide +kernel
theorem dX9_give_28 : decode cX9_give 28 = .ok (.bipush 9, 2) := by decide +kernel
theorem dX9_give_30 : decode cX9_give 30 = .ok (.if_icmp .gt 14, 3) := by decide +kernel
theorem dX9_give_33 : decode cX9_give 33 = .ok (.iload_n 3, 1) := by decide +kernel
theorem dX9_give_34 : decode cX9_give 34 = .ok (.ifCond .lt 10, 3) := by decide +kernel
theorem dX9_give_37 : decode cX9_give 37 = .ok (.iload_n 3, 1) := by decide +kernel
theorem dX9_give_38 : decode cX9_give 38 = .ok (.sipush 9999, 3) := by decide +kernel
theorem dX9_give_41 : decode cX9_give 41 = .ok (.if_icmp .le 5, 3) := by decide +kernel
theorem dX9_give_44 : decode cX9_give 44 = .ok (.iconst 0, 1) := by decide +kernel
theorem dX9_give_45 : decode cX9_give 45 = .ok (.ireturn, 1) := by decide +kernel
theorem dX9_give_46 : decode cX9_give 46 = .ok (.aload_n 0, 1) := by decide +kernel
theorem dX9_give_47 : decode cX9_give 47 = .ok (.getfield 26, 3) := by decide +kernel
theorem dX9_give_50 : decode cX9_give 50 = .ok (.iload_n 1, 1) := by decide +kernel
theorem dX9_give_51 : decode cX9_give 51 = .ok (.iload_n 2, 1) := by decide +kernel
theorem dX9_give_52 : decode cX9_give 52 = .ok (.iload_n 3, 1) := by decide +kernel
theorem dX9_give_53 : decode cX9_give 53 = .ok (.aload_n 0, 1) := by decide +kernel
theorem dX9_give_54 : decode cX9_give 54 = .ok (.getfield 79, 3) := by decide +kernel
theorem dX9_give_57 : decode cX9_give 57 = .ok (.invokevirtual 127, 3) := by decide +kernel
theorem dX9_give_60 : decode cX9_give 60 = .ok (.iconst 1, 1) := by decide +kernel
theorem dX9_give_61 : decode cX9_give 61 = .ok (.ireturn, 1) := by decide +kernel
theorem dX9_feed_0 : decode cX9_feed 0 = .ok (.aload_n 0, 1) := by decide +kernel
theorem dX9_feed_1 : decode cX9_feed 1 = .ok (.getfield 33, 3) := by decide +kernel
theorem dX9_feed_4 : decode cX9_feed 4 = .ok (.iload_n 1, 1) := by decide +kernel
theorem dX9_feed_5 : decode cX9_feed 5 = .ok (.invokevirtual 130, 3) := by decide +kernel
theorem dX9_feed_8 : decode cX9_feed 8 = .ok (.ifCond .ne 5, 3) := by decide +kernel
theorem dX9_feed_11 : decode cX9_feed 11 = .ok (.iconst (-1), 1) := by decide +kernel
theorem dX9_feed_12 : decode cX9_feed 12 = .ok (.ireturn, 1) := by decide +kernel
theorem dX9_feed_13 : decode cX9_feed 13 = .ok (.aload_n 0, 1) := by decide +kernel
theorem dX9_feed_14 : decode cX9_feed 14 = .ok (.getfield 33, 3) := by decide +kernel
theorem dX9_feed_17 : decode cX9_feed 17 = .ok (.iload_n 1, 1) := by decide +kernel
theorem dX9_feed_18 : decode cX9_feed 18 = .ok (.invokevirtual 133, 3) := by decide +kernel
theorem dX9_feed_21 : decode cX9_feed 21 = .ok (.aload_n 0, 1) := by decide +kernel
theorem dX9_feed_22 : decode cX9_feed 22 = .ok (.getfield 33, 3) := by decide +kernel
theorem dX9_feed_25 : decode cX9_feed 25 = .ok (.getfield 136, 3) := by decide +kernel
theorem dX9_feed_28 : decode cX9_feed 28 = .ok (.ireturn, 1) := by decide +kernel
theorem dX9_end_0 : decode cX9_end 0 = .ok (.iload_n 1, 1) := by decide +kernel
theorem dX9_end_1 : decode cX9_end 1 = .ok (.ifCond .lt 14, 3) := by decide +kernel
theorem dX9_end_4 : decode cX9_end 4 = .ok (.iload_n 1, 1) := by decide +kernel
theorem dX9_end_5 : decode cX9_end 5 = .ok (.aload_n 0, 1) := by decide +kernel
theorem dX9_end_6 : decode cX9_end 6 = .ok (.getfield 33, 3) := by decide +kernel
theorem dX9_end_9 : decode cX9_end 9 = .ok (.getfield 136, 3) := by decide +kernel
theorem dX9_end_12 : decode cX9_end 12 = .ok (.if_icmp .le 5, 3) := by decide +kernel
theorem dX9_end_15 : decode cX9_end 15 = .ok (.iconst 0, 1) := by decide +kernel
theorem dX9_end_16 : decode cX9_end 16 = .ok (.ireturn, 1) := by decide +kernel
theorem dX9_end_17 : decode cX9_end 17 = .ok (.aload_n 0, 1) := by decide +kernel
theorem dX9_end_18 : decode cX9_end 18 = .ok (.getfield 33, 3) := by decide +kernel
theorem dX9_end_21 : decode cX9_end 21 = .ok (.iload_n 1, 1) := by decide +kernel
theorem dX9_end_22 : decode cX9_end 22 = .ok (.putfield 136, 3) := by decide +kernel
theorem dX9_end_25 : decode cX9_end 25 = .ok (.iconst 1, 1) := by decide +kernel
theorem dX9_end_26 : decode cX9_end 26 = .ok (.ireturn, 1) := by decide +kernel
theorem dX9_fault_0 : decode cX9_fault 0 = .ok (.aload_n 0, 1) := by decide +kernel
theorem dX9_fault_1 : decode cX9_fault 1 = .ok (.getfield 40, 3) := by decide +kernel
theorem dX9_fault_4 : decode cX9_fault 4 = .ok (.aload_n 0, 1) := by decide +kernel
theorem dX9_fault_5 : decode cX9_fault 5 = .ok (.getfield 33, 3) := by decide +kernel
theorem dX9_fault_8 : decode cX9_fault 8 = .ok (.getfield 139, 3) := by decide +kernel
theorem dX9_fault_11 : decode cX9_fault 11 = .ok (.aload_n 0, 1) := by decide +kernel
theorem dX9_fault_12 : decode cX9_fault 12 = .ok (.getfield 33, 3) := by decide +kernel
theorem dX9_fault_15 : decode cX9_fault 15 = .ok (.getfield 136, 3) := by decide +kernel
theorem dX9_fault_18 : decode cX9_fault 18 = .ok (.invokevirtual 143, 3) := by decide +kernel
theorem dX9_fault_21 : decode cX9_fault 21 = .ok (.ireturn, 1) := by decide +kernel
theorem dX9_statute_0 : decode cX9_statute 0 = .ok (.iload_n 1, 1) := by decide +kernel
theorem dX9_statute_1 : decode cX9_statute 1 = .ok (.invokestatic 109, 3) := by decide +kernel
end
section
theorem dX9_statute_4 : decode cX9_statute 4 = .ok (.ifCond .eq 24, 3) := by decide +kernel
theorem dX9_statute_7 : decode cX9_statute 7 = .ok (.aload_n 0, 1) := by decide +kernel
theorem dX9_statute_8 : decode cX9_statute 8 = .ok (.getfield 47, 3) := by decide +kernel
theorem dX9_statute_11 : decode cX9_statute 11 = .ok (.getfield 147, 3) := by decide +kernel
theorem dX9_statute_14 : decode cX9_statute 14 = .ok (.invokevirtual 150, 3) := by decide +kernel
theorem dX9_statute_17 : decode cX9_statute 17 = .ok (.ifCond .ne 11, 3) := by decide +kernel
theorem dX9_statute_20 : decode cX9_statute 20 = .ok (.aload_n 0, 1) := by decide +kernel
theorem dX9_statute_21 : decode cX9_statute 21 = .ok (.invokevirtual 151, 3) := by decide +kernel
theorem dX9_statute_24 : decode cX9_statute 24 = .ok (.iconst (-1), 1) := by decide +kernel
theorem dX9_statute_25 : decode cX9_statute 25 = .ok (.if_icmp .eq 5, 3) := by decide +kernel
theorem dX9_statute_28 : decode cX9_statute 28 = .ok (.iconst (-1), 1) := by decide +kernel
theorem dX9_statute_29 : decode cX9_statute 29 = .ok (.ireturn, 1) := by decide +kernel
theorem dX9_statute_30 : decode cX9_statute 30 = .ok (.aload_n 0, 1) := by decide +kernel
theorem dX9_statute_31 : decode cX9_statute 31 = .ok (.getfield 47, 3) := by decide +kernel
theorem dX9_statute_34 : decode cX9_statute 34 = .ok (.aload_n 0, 1) := by decide +kernel
theorem dX9_statute_35 : decode cX9_statute 35 = .ok (.getfield 33, 3) := by decide +kernel
theorem dX9_statute_38 : decode cX9_statute 38 = .ok (.iload_n 1, 1) := by decide +kernel
theorem dX9_statute_39 : decode cX9_statute 39 = .ok (.aload_n 0, 1) := by decide +kernel
theorem dX9_statute_40 : decode cX9_statute 40 = .ok (.getfield 79, 3) := by decide +kernel
theorem dX9_statute_43 : decode cX9_statute 43 = .ok (.invokevirtual 155, 3) := by decide +kernel
theorem dX9_statute_46 : decode cX9_statute 46 = .ok (.istore_n 2, 1) := by decide +kernel
theorem dX9_statute_47 : decode cX9_statute 47 = .ok (.aload_n 0, 1) := by decide +kernel
theorem dX9_statute_48 : decode cX9_statute 48 = .ok (.getfield 33, 3) := by decide +kernel
theorem dX9_statute_51 : decode cX9_statute 51 = .ok (.iconst 0, 1) := by decide +kernel
theorem dX9_statute_52 : decode cX9_statute 52 = .ok (.putfield 136, 3) := by decide +kernel
theorem dX9_statute_55 : decode cX9_statute 55 = .ok (.iload_n 2, 1) := by decide +kernel
theorem dX9_statute_56 : decode cX9_statute 56 = .ok (.ireturn, 1) := by decide +kernel
theorem dX9_force_0 : decode cX9_force 0 = .ok (.aload_n 0, 1) := by decide +kernel
theorem dX9_force_1 : decode cX9_force 1 = .ok (.iload_n 1, 1) := by decide +kernel
theorem dX9_force_2 : decode cX9_force 2 = .ok (.iload_n 2, 1) := by decide +kernel
theorem dX9_force_3 : decode cX9_force 3 = .ok (.invokevirtual 158, 3) := by decide +kernel
theorem dX9_force_6 : decode cX9_force 6 = .ok (.ifCond .eq 18, 3) := by decide +kernel
theorem dX9_force_9 : decode cX9_force 9 = .ok (.aload_n 0, 1) := by decide +kernel
theorem dX9_force_10 : decode cX9_force 10 = .ok (.getfield 47, 3) := by decide +kernel
theorem dX9_force_13 : decode cX9_force 13 = .ok (.getfield 147, 3) := by decide +kernel
theorem dX9_force_16 : decode cX9_force 16 = .ok (.iload_n 1, 1) := by decide +kernel
theorem dX9_force_17 : decode cX9_force 17 = .ok (.iload_n 2, 1) := by decide +kernel
theorem dX9_force_18 : decode cX9_force 18 = .ok (.invokevirtual 162, 3) := by decide +kernel
theorem dX9_force_21 : decode cX9_force 21 = .ok (.goto 4, 3) := by decide +kernel
theorem dX9_force_24 : decode cX9_force 24 = .ok (.iconst (-1), 1) := by decide +kernel
theorem dX9_force_25 : decode cX9_force 25 = .ok (.ireturn, 1) := by decide +kernel
theorem dX9_value_0 : decode cX9_value 0 = .ok (.aload_n 0, 1) := by decide +kernel
theorem dX9_value_1 : decode cX9_value 1 = .ok (.getfield 10, 3) := by decide +kernel
theorem dX9_value_4 : decode cX9_value 4 = .ok (.iload_n 1, 1) := by decide +kernel
theorem dX9_value_5 : decode cX9_value 5 = .ok (.invokevirtual 112, 3) := by decide +kernel
theorem dX9_value_8 : decode cX9_value 8 = .ok (.ifCond .eq 13, 3) := by decide +kernel
theorem dX9_value_11 : decode cX9_value 11 = .ok (.aload_n 0, 1) := by decide +kernel
theorem dX9_value_12 : decode cX9_value 12 = .ok (.iload_n 3, 1) := by decide +kernel
theorem dX9_value_13 : decode cX9_value 13 = .ok (.iload 4, 2) := by decide +kernel
theorem dX9_value_15 : decode cX9_value 15 = .ok (.invokevirtual 158, 3) := by decide +kernel
theorem dX9_value_18 : decode cX9_value 18 = .ok (.ifCond .ne 5, 3) := by decide +kernel
theorem dX9_value_21 : decode cX9_value 21 = .ok (.iconst (-1), 1) := by decide +kernel
theorem dX9_value_22 : decode cX9_value 22 = .ok (.ireturn, 1) := by decide +kernel
theorem dX9_value_23 : decode cX9_value 23 = .ok (.aload_n 0, 1) := by decide +kernel
theorem dX9_value_24 : decode cX9_value 24 = .ok (.iload_n 1, 1) := by decide +kernel
theorem dX9_value_25 : decode cX9_value 25 = .ok (.iload_n 2, 1) := by decide +kernel
theorem dX9_value_26 : decode cX9_value 26 = .ok (.iload_n 3, 1) := by decide +kernel
theorem dX9_value_27 : decode cX9_value 27 = .ok (.iload 4, 2) := by decide +kernel
theorem dX9_value_29 : decode cX9_value 29 = .ok (.invokevirtual 165, 3) := by decide +kernel
theorem dX9_value_32 : decode cX9_value 32 = .ok (.ireturn, 1) := by decide +kernel
theorem dX9_may_0 : decode cX9_may 0 = .ok (.aload_n 0, 1) := by decide +kernel
theorem dX9_may_1 : decode cX9_may 1 = .ok (.getfield 10, 3) := by decide +kernel
theorem dX9_may_4 : decode cX9_may 4 = .ok (.iload_n 1, 1) := by decide +kernel
theorem dX9_may_5 : decode cX9_may 5 = .ok (.invokevirtual 112, 3) := by decide +kernel
theorem dX9_may_8 : decode cX9_may 8 = .ok (.ifCond .eq 12, 3) := by decide +kernel
theorem dX9_may_11 : decode cX9_may 11 = .ok (.aload_n 0, 1) := by decide +kernel
theorem dX9_may_12 : decode cX9_may 12 = .ok (.iload_n 2, 1) := by decide +kernel
theorem dX9_may_13 : decode cX9_may 13 = .ok (.iload_n 3, 1) := by decide +kernel
theorem dX9_may_14 : decode cX9_may 14 = .ok (.invokevirtual 158, 3) := by decide +kernel
theorem dX9_may_17 : decode cX9_may 17 = .ok (.ifCond .ne 5, 3) := by decide +kernel
theorem dX9_may_20 : decode cX9_may 20 = .ok (.iconst (-1), 1) := by decide +kernel
theorem dX9_may_21 : decode cX9_may 21 = .ok (.ireturn, 1) := by decide +kernel
theorem dX9_may_22 : decode cX9_may 22 = .ok (.aload_n 0, 1) := by decide +kernel
theorem dX9_may_23 : decode cX9_may 23 = .ok (.iload_n 1, 1) := by decide +kernel
theorem dX9_may_24 : decode cX9_may 24 = .ok (.iload_n 2, 1) := by decide +kernel
theorem dX9_may_25 : decode cX9_may 25 = .ok (.iload_n 3, 1) := by decide +kernel
theorem dX9_may_26 : decode cX9_may 26 = .ok (.invokevirtual 169, 3) := by decide +kernel
theorem dX9_may_29 : decode cX9_may 29 = .ok (.ireturn, 1) := by decide +kernel
theorem dX9_piece_0 : decode cX9_piece 0 = .ok (.aload_n 0, 1) := by decide +kernel
theorem dX9_piece_1 : decode cX9_piece 1 = .ok (.getfield 10, 3) := by decide +kernel
theorem dX9_piece_4 : decode cX9_piece 4 = .ok (.iload_n 1, 1) := by decide +kernel
theorem dX9_piece_5 : decode cX9_piece 5 = .ok (.invokevirtual 95, 3) := by decide +kernel
theorem dX9_piece_8 : decode cX9_piece 8 = .ok (.ifCond .eq 14, 3) := by decide +kernel
theorem dX9_piece_11 : decode cX9_piece 11 = .ok (.aload_n 0, 1) := by decide +kernel
theorem dX9_piece_12 : decode cX9_piece 12 = .ok (.getfield 10, 3) := by decide +kernel
theorem dX9_piece_15 : decode cX9_piece 15 = .ok (.iload_n 1, 1) := by decide +kernel
theorem dX9_piece_16 : decode cX9_piece 16 = .ok (.invokevirtual 98, 3) := by decide +kernel
theorem dX9_piece_19 : decode cX9_piece 19 = .ok (.ifCond .eq 5, 3) := by decide +kernel
theorem dX9_piece_22 : decode cX9_piece 22 = .ok (.iconst (-1), 1) := by decide +kernel
theorem dX9_piece_23 : decode cX9_piece 23 = .ok (.ireturn, 1) := by decide +kernel
theorem dX9_piece_24 : decode cX9_piece 24 = .ok (.aload_n 0, 1) := by decide +kernel
theorem dX9_piece_25 : decode cX9_piece 25 = .ok (.getfield 72, 3) := by decide +kernel
theorem dX9_piece_28 : decode cX9_piece 28 = .ok (.invokevirtual 173, 3) := by decide +kernel
theorem dX9_piece_31 : decode cX9_piece 31 = .ok (.ifCond .ne 30, 3) := by decide +kernel
theorem dX9_piece_34 : decode cX9_piece 34 = .ok (.aload_n 0, 1) := by decide +kernel
theorem dX9_piece_35 : decode cX9_piece 35 = .ok (.getfield 72, 3) := by decide +kernel
theorem dX9_piece_38 : decode cX9_piece 38 = .ok (.iload_n 1, 1) := by decide +kernel
theorem dX9_piece_39 : decode cX9_piece 39 = .ok (.invokevirtual 174, 3) := by decide +kernel
theorem dX9_piece_42 : decode cX9_piece 42 = .ok (.ifCond .ne 19, 3) := by decide +kernel
theorem dX9_piece_45 : decode cX9_piece 45 = .ok (.aload_n 0, 1) := by decide +kernel
theorem dX9_piece_46 : decode cX9_piece 46 = .ok (.iload_n 1, 1) := by decide +kernel
theorem dX9_piece_47 : decode cX9_piece 47 = .ok (.aload_n 0, 1) := by decide +kernel
theorem dX9_piece_48 : decode cX9_piece 48 = .ok (.getfield 79, 3) := by decide +kernel
theorem dX9_piece_51 : decode cX9_piece 51 = .ok (.aload_n 0, 1) := by decide +kernel
theorem dX9_piece_52 : decode cX9_piece 52 = .ok (.getfield 79, 3) := by decide +kernel
theorem dX9_piece_55 : decode cX9_piece 55 = .ok (.invokevirtual 169, 3) := by decide +kernel
theorem dX9_piece_58 : decode cX9_piece 58 = .ok (.ifCond .ne 5, 3) := by decide +kernel
theorem dX9_piece_61 : decode cX9_piece 61 = .ok (.iconst (-1), 1) := by decide +kernel
theorem dX9_piece_62 : decode cX9_piece 62 = .ok (.ireturn, 1) := by decide +kernel
theorem dX9_piece_63 : decode cX9_piece 63 = .ok (.aload_n 0, 1) := by decide +kernel
theorem dX9_piece_64 : decode cX9_piece 64 = .ok (.iload_n 1, 1) := by decide +kernel
theorem dX9_piece_65 : decode cX9_piece 65 = .ok (.invokevirtual 177, 3) := by decide +kernel
theorem dX9_piece_68 : decode cX9_piece 68 = .ok (.istore 4, 2) := by decide +kernel
theorem dX9_piece_70 : decode cX9_piece 70 = .ok (.iload 4, 2) := by decide +kernel
theorem dX9_piece_72 : decode cX9_piece 72 = .ok (.iconst 3, 1) := by decide +kernel
theorem dX9_piece_73 : decode cX9_piece 73 = .ok (.if_icmp .ge 5, 3) := by decide +kernel
theorem dX9_piece_76 : decode cX9_piece 76 = .ok (.iconst (-1), 1) := by decide +kernel
theorem dX9_piece_77 : decode cX9_piece 77 = .ok (.ireturn, 1) := by decide +kernel
theorem dX9_piece_78 : decode cX9_piece 78 = .ok (.aload_n 0, 1) := by decide +kernel
theorem dX9_piece_79 : decode cX9_piece 79 = .ok (.getfield 72, 3) := by decide +kernel
theorem dX9_piece_82 : decode cX9_piece 82 = .ok (.iload_n 1, 1) := by decide +kernel
theorem dX9_piece_83 : decode cX9_piece 83 = .ok (.aload_n 0, 1) := by decide +kernel
theorem dX9_piece_84 : decode cX9_piece 84 = .ok (.getfield 76, 3) := by decide +kernel
theorem dX9_piece_87 : decode cX9_piece 87 = .ok (.iload 4, 2) := by decide +kernel
theorem dX9_piece_89 : decode cX9_piece 89 = .ok (.lload_n 2, 1) := by decide +kernel
theorem dX9_piece_90 : decode cX9_piece 90 = .ok (.invokevirtual 181, 3) := by decide +kernel
theorem dX9_piece_93 : decode cX9_piece 93 = .ok (.ireturn, 1) := by decide +kernel
theorem dX9_judge_0 : decode cX9_judge 0 = .ok (.aload_n 0, 1) := by decide +kernel
theorem dX9_judge_1 : decode cX9_judge 1 = .ok (.getfield 72, 3) := by decide +kernel
theorem dX9_judge_4 : decode cX9_judge 4 = .ok (.iload_n 1, 1) := by decide +kernel
theorem dX9_judge_5 : decode cX9_judge 5 = .ok (.invokevirtual 184, 3) := by decide +kernel
theorem dX9_judge_8 : decode cX9_judge 8 = .ok (.ifCond .eq 22, 3) := by decide +kernel
theorem dX9_judge_11 : decode cX9_judge 11 = .ok (.iload_n 2, 1) := by decide +kernel
theorem dX9_judge_12 : decode cX9_judge 12 = .ok (.invokestatic 185, 3) := by decide +kernel
theorem dX9_judge_15 : decode cX9_judge 15 = .ok (.ifCond .eq 15, 3) := by decide +kernel
theorem dX9_judge_18 : decode cX9_judge 18 = .ok (.aload_n 0, 1) := by decide +kernel
theorem dX9_judge_19 : decode cX9_judge 19 = .ok (.getfield 72, 3) := by decide +kernel
theorem dX9_judge_22 : decode cX9_judge 22 = .ok (.iload_n 1, 1) := by decide +kernel
theorem dX9_judge_23 : decode cX9_judge 23 = .ok (.iload_n 2, 1) := by decide +kernel
theorem dX9_judge_24 : decode cX9_judge 24 = .ok (.invokevirtual 188, 3) := by decide +kernel
theorem dX9_judge_27 : decode cX9_judge 27 = .ok (.goto 4, 3) := by decide +kernel
theorem dX9_judge_30 : decode cX9_judge 30 = .ok (.iconst (-1), 1) := by decide +kernel
theorem dX9_judge_31 : decode cX9_judge 31 = .ok (.ireturn, 1) := by decide +kernel
theorem dX9_mark_0 : decode cX9_mark 0 = .ok (.aload_n 0, 1) := by decide +kernel
theorem dX9_mark_1 : decode cX9_mark 1 = .ok (.getfield 72, 3) := by decide +kernel
theorem dX9_mark_4 : decode cX9_mark 4 = .ok (.iload_n 1, 1) := by decide +kernel
theorem dX9_mark_5 : decode cX9_mark 5 = .ok (.invokevirtual 184, 3) := by decide +kernel
theorem dX9_mark_8 : decode cX9_mark 8 = .ok (.ifCond .eq 17, 3) := by decide +kernel
theorem dX9_mark_11 : decode cX9_mark 11 = .ok (.iload_n 2, 1) := by decide +kernel
theorem dX9_mark_12 : decode cX9_mark 12 = .ok (.invokestatic 185, 3) := by decide +kernel
theorem dX9_mark_15 : decode cX9_mark 15 = .ok (.ifCond .eq 10, 3) := by decide +kernel
theorem dX9_mark_18 : decode cX9_mark 18 = .ok (.iload_n 3, 1) := by decide +kernel
theorem dX9_mark_19 : decode cX9_mark 19 = .ok (.invokestatic 191, 3) := by decide +kernel
theorem dX9_mark_22 : decode cX9_mark 22 = .ok (.ifCond .ne 5, 3) := by decide +kernel
theorem dX9_mark_25 : decode cX9_mark 25 = .ok (.iconst 0, 1) := by decide +kernel
theorem dX9_mark_26 : decode cX9_mark 26 = .ok (.ireturn, 1) := by decide +kernel
theorem dX9_mark_27 : decode cX9_mark 27 = .ok (.iload 4, 2) := by decide +kernel
theorem dX9_mark_29 : decode cX9_mark 29 = .ok (.ifCond .lt 21, 3) := by decide +kernel
theorem dX9_mark_32 : decode cX9_mark 32 = .ok (.iload 4, 2) := by decide +kernel
theorem dX9_mark_34 : decode cX9_mark 34 = .ok (.bipush 10, 2) := by decide +kernel
theorem dX9_mark_36 : decode cX9_mark 36 = .ok (.if_icmp .gt 14, 3) := by decide +kernel
theorem dX9_mark_39 : decode cX9_mark 39 = .ok (.aload_n 0, 1) := by decide +kernel
theorem dX9_mark_40 : decode cX9_mark 40 = .ok (.getfield 72, 3) := by decide +kernel
theorem dX9_mark_43 : decode cX9_mark 43 = .ok (.iload_n 1, 1) := by decide +kernel
theorem dX9_mark_44 : decode cX9_mark 44 = .ok (.invokevirtual 194, 3) := by decide +kernel
theorem dX9_mark_47 : decode cX9_mark 47 = .ok (.ifCond .eq 5, 3) := by decide +kernel
theorem dX9_mark_50 : decode cX9_mark 50 = .ok (.iconst 0, 1) := by decide +kernel
theorem dX9_mark_51 : decode cX9_mark 51 = .ok (.ireturn, 1) := by decide +kernel
theorem dX9_mark_52 : decode cX9_mark 52 = .ok (.aload_n 0, 1) := by decide +kernel
theorem dX9_mark_53 : decode cX9_mark 53 = .ok (.getfield 72, 3) := by decide +kernel
theorem dX9_mark_56 : decode cX9_mark 56 = .ok (.iload_n 1, 1) := by decide +kernel
theorem dX9_mark_57 : decode cX9_mark 57 = .ok (.iload_n 2, 1) := by decide +kernel
theorem dX9_mark_58 : decode cX9_mark 58 = .ok (.iload_n 3, 1) := by decide +kernel
theorem dX9_mark_59 : decode cX9_mark 59 = .ok (.iload 4, 2) := by decide +kernel
theorem dX9_mark_61 : decode cX9_mark 61 = .ok (.aload_n 0, 1) := by decide +kernel
theorem dX9_mark_62 : decode cX9_mark 62 = .ok (.getfield 79, 3) := by decide +kernel
theorem dX9_mark_65 : decode cX9_mark 65 = .ok (.invokevirtual 197, 3) := by decide +kernel
theorem dX9_mark_68 : decode cX9_mark 68 = .ok (.aload_n 0, 1) := by decide +kernel
theorem dX9_mark_69 : decode cX9_mark 69 = .ok (.getfield 72, 3) := by decide +kernel
theorem dX9_mark_72 : decode cX9_mark 72 = .ok (.iload_n 1, 1) := by decide +kernel
theorem dX9_mark_73 : decode cX9_mark 73 = .ok (.invokevirtual 201, 3) := by decide +kernel
theorem dX9_mark_76 : decode cX9_mark 76 = .ok (.ifCond .eq 23, 3) := by decide +kernel
theorem dX9_mark_79 : decode cX9_mark 79 = .ok (.aload_n 0, 1) := by decide +kernel
theorem dX9_mark_80 : decode cX9_mark 80 = .ok (.getfield 10, 3) := by decide +kernel
theorem dX9_mark_83 : decode cX9_mark 83 = .ok (.aload_n 0, 1) := by decide +kernel
theorem dX9_mark_84 : decode cX9_mark 84 = .ok (.getfield 72, 3) := by decide +kernel
theorem dX9_mark_87 : decode cX9_mark 87 = .ok (.getfield 204, 3) := by decide +kernel
theorem dX9_mark_90 : decode cX9_mark 90 = .ok (.iload_n 1, 1) := by decide +kernel
theorem dX9_mark_91 : decode cX9_mark 91 = .ok (.iaload, 1) := by decide +kernel
theorem dX9_mark_92 : decode cX9_mark 92 = .ok (.aload_n 0, 1) := by decide +kernel
theorem dX9_mark_93 : decode cX9_mark 93 = .ok (.getfield 79, 3) := by decide +kernel
theorem dX9_mark_96 : decode cX9_mark 96 = .ok (.invokevirtual 101, 3) := by decide +kernel
theorem dX9_mark_99 : decode cX9_mark 99 = .ok (.iconst 1, 1) := by decide +kernel
theorem dX9_mark_100 : decode cX9_mark 100 = .ok (.ireturn, 1) := by decide +kernel
theorem dX9_told_0 : decode cX9_told 0 = .ok (.aload_n 0, 1) := by decide +kernel
theorem dX9_told_1 : decode cX9_told 1 = .ok (.getfield 72, 3) := by decide +kernel
theorem dX9_told_4 : decode cX9_told 4 = .ok (.iload_n 1, 1) := by decide +kernel
theorem dX9_told_5 : decode cX9_told 5 = .ok (.invokevirtual 184, 3) := by decide +kernel
theorem dX9_told_8 : decode cX9_told 8 = .ok (.ifCond .ne 5, 3) := by decide +kernel
theorem dX9_told_11 : decode cX9_told 11 = .ok (.iconst (-1), 1) := by decide +kernel
theorem dX9_told_12 : decode cX9_told 12 = .ok (.ireturn, 1) := by decide +kernel
theorem dX9_told_13 : decode cX9_told 13 = .ok (.iload_n 2, 1) := by decide +kernel
theorem dX9_told_14 : decode cX9_told 14 = .ok (.tableswitch 140 0 5 #[38, 48, 65, 89, 106, 130], 38) := by decide +kernel
theorem dX9_told_52 : decode cX9_told 52 = .ok (.aload_n 0, 1) := by decide +kernel
theorem dX9_told_53 : decode cX9_told 53 = .ok (.getfield 72, 3) := by decide +kernel
theorem dX9_told_56 : decode cX9_told 56 = .ok (.getfield 204, 3) := by decide +kernel
theorem dX9_told_59 : decode cX9_told 59 = .ok (.iload_n 1, 1) := by decide +kernel
theorem dX9_told_60 : decode cX9_told 60 = .ok (.iaload, 1) := by decide +kernel
theorem dX9_told_61 : decode cX9_told 61 = .ok (.ireturn, 1) := by decide +kernel
theorem dX9_told_62 : decode cX9_told 62 = .ok (.aload_n 0, 1) := by decide +kernel
theorem dX9_told_63 : decode cX9_told 63 = .ok (.getfield 72, 3) := by decide +kernel
theorem dX9_told_66 : decode cX9_told 66 = .ok (.iload_n 1, 1) := by decide +kernel
theorem dX9_told_67 : decode cX9_told 67 = .ok (.invokevirtual 194, 3) := by decide +kernel
theorem dX9_told_70 : decode cX9_told 70 = .ok (.ifCond .eq 7, 3) := by decide +kernel
theorem dX9_told_73 : decode cX9_told 73 = .ok (.iconst 1, 1) := by decide +kernel
theorem dX9_told_74 : decode cX9_told 74 = .ok (.goto 4, 3) := by decide +kernel
theorem dX9_told_77 : decode cX9_told 77 = .ok (.iconst 0, 1) := by decide +kernel
theorem dX9_told_78 : decode cX9_told 78 = .ok (.ireturn, 1) := by decide +kernel
theorem dX9_told_79 : decode cX9_told 79 = .ok (.aload_n 0, 1) := by decide +kernel
theorem dX9_told_80 : decode cX9_told 80 = .ok (.getfield 72, 3) := by decide +kernel
theorem dX9_told_83 : decode cX9_told 83 = .ok (.iload_n 1, 1) := by decide +kernel
theorem dX9_told_84 : decode cX9_told 84 = .ok (.invokevirtual 194, 3) := by decide +kernel
theorem dX9_told_87 : decode cX9_told 87 = .ok (.ifCond .eq 14, 3) := by decide +kernel
theorem dX9_told_90 : decode cX9_told 90 = .ok (.aload_n 0, 1) := by decide +kernel
theorem dX9_told_91 : decode cX9_told 91 = .ok (.getfield 72, 3) := by decide +kernel
theorem dX9_told_94 : decode cX9_told 94 = .ok (.iload_n 1, 1) := by decide +kernel
theorem dX9_told_95 : decode cX9_told 95 = .ok (.invokevirtual 207, 3) := by decide +kernel
theorem dX9_told_98 : decode cX9_told 98 = .ok (.goto 4, 3) := by decide +kernel
theorem dX9_told_101 : decode cX9_told 101 = .ok (.iconst (-1), 1) := by decide +kernel
theorem dX9_told_102 : decode cX9_told 102 = .ok (.ireturn, 1) := by decide +kernel
theorem dX9_told_103 : decode cX9_told 103 = .ok (.aload_n 0, 1) := by decide +kernel
theorem dX9_told_104 : decode cX9_told 104 = .ok (.getfield 72, 3) := by decide +kernel
theorem dX9_told_107 : decode cX9_told 107 = .ok (.iload_n 1, 1) := by decide +kernel
theorem dX9_told_108 : decode cX9_told 108 = .ok (.invokevirtual 201, 3) := by decide +kernel
theorem dX9_told_111 : decode cX9_told 111 = .ok (.ifCond .eq 7, 3) := by decide +kernel
theorem dX9_told_114 : decode cX9_told 114 = .ok (.iconst 1, 1) := by decide +kernel
theorem dX9_told_115 : decode cX9_told 115 = .ok (.goto 4, 3) := by decide +kernel
theorem dX9_told_118 : decode cX9_told 118 = .ok (.iconst 0, 1) := by decide +kernel
theorem dX9_told_119 : decode cX9_told 119 = .ok (.ireturn, 1) := by decide +kernel
theorem dX9_told_120 : decode cX9_told 120 = .ok (.aload_n 0, 1) := by decide +kernel
theorem dX9_told_121 : decode cX9_told 121 = .ok (.getfield 72, 3) := by decide +kernel
theorem dX9_told_124 : decode cX9_told 124 = .ok (.iload_n 1, 1) := by decide +kernel
theorem dX9_told_125 : decode cX9_told 125 = .ok (.invokevirtual 194, 3) := by decide +kernel
theorem dX9_told_128 : decode cX9_told 128 = .ok (.ifCond .eq 14, 3) := by decide +kernel
theorem dX9_told_131 : decode cX9_told 131 = .ok (.aload_n 0, 1) := by decide +kernel
theorem dX9_told_132 : decode cX9_told 132 = .ok (.getfield 72, 3) := by decide +kernel
theorem dX9_told_135 : decode cX9_told 135 = .ok (.iload_n 1, 1) := by decide +kernel
theorem dX9_told_136 : decode cX9_told 136 = .ok (.invokevirtual 210, 3) := by decide +kernel
theorem dX9_told_139 : decode cX9_told 139 = .ok (.goto 4, 3) := by decide +kernel
theorem dX9_told_142 : decode cX9_told 142 = .ok (.iconst (-1), 1) := by decide +kernel
theorem dX9_told_143 : decode cX9_told 143 = .ok (.ireturn, 1) := by decide +kernel
theorem dX9_told_144 : decode cX9_told 144 = .ok (.aload_n 0, 1) := by decide +kernel
theorem dX9_told_145 : decode cX9_told 145 = .ok (.getfield 72, 3) := by decide +kernel
theorem dX9_told_148 : decode cX9_told 148 = .ok (.getfield 213, 3) := by decide +kernel
theorem dX9_told_151 : decode cX9_told 151 = .ok (.iload_n 1, 1) := by decide +kernel
theorem dX9_told_152 : decode cX9_told 152 = .ok (.iaload, 1) := by decide +kernel
theorem dX9_told_153 : decode cX9_told 153 = .ok (.ireturn, 1) := by decide +kernel
theorem dX9_told_154 : decode cX9_told 154 = .ok (.iconst (-1), 1) := by decide +kernel
theorem dX9_told_155 : decode cX9_told 155 = .ok (.ireturn, 1) := by decide +kernel
theorem dX9_hire_0 : decode cX9_hire 0 = .ok (.aload_n 0, 1) := by decide +kernel
theorem dX9_hire_1 : decode cX9_hire 1 = .ok (.getfield 10, 3) := by decide +kernel
theorem dX9_hire_4 : decode cX9_hire 4 = .ok (.iload_n 1, 1) := by decide +kernel
theorem dX9_hire_5 : decode cX9_hire 5 = .ok (.invokevirtual 98, 3) := by decide +kernel
theorem dX9_hire_8 : decode cX9_hire 8 = .ok (.ifCond .eq 19, 3) := by decide +kernel
theorem dX9_hire_11 : decode cX9_hire 11 = .ok (.aload_n 0, 1) := by decide +kernel
theorem dX9_hire_12 : decode cX9_hire 12 = .ok (.getfield 10, 3) := by decide +kernel
theorem dX9_hire_15 : decode cX9_hire 15 = .ok (.iload_n 2, 1) := by decide +kernel
theorem dX9_hire_16 : decode cX9_hire 16 = .ok (.invokevirtual 95, 3) := by decide +kernel
theorem dX9_hire_19 : decode cX9_hire 19 = .ok (.ifCond .eq 8, 3) := by decide +kernel
theorem dX9_hire_22 : decode cX9_hire 22 = .ok (.iload_n 1, 1) := by decide +kernel
theorem dX9_hire_23 : decode cX9_hire 23 = .ok (.iload_n 2, 1) := by decide +kernel
theorem dX9_hire_24 : decode cX9_hire 24 = .ok (.if_icmp .ne 5, 3) := by decide +kernel
theorem dX9_hire_27 : decode cX9_hire 27 = .ok (.iconst 0, 1) := by decide +kernel
theorem dX9_hire_28 : decode cX9_hire 28 = .ok (.ireturn, 1) := by decide +kernel
theorem dX9_hire_29 : decode cX9_hire 29 = .ok (.aload_n 0, 1) := by decide +kernel
theorem dX9_hire_30 : decode cX9_hire 30 = .ok (.getfield 10, 3) := by decide +kernel
theorem dX9_hire_33 : decode cX9_hire 33 = .ok (.getfield 216, 3) := by decide +kernel
theorem dX9_hire_36 : decode cX9_hire 36 = .ok (.iload_n 2, 1) := by decide +kernel
theorem dX9_hire_37 : decode cX9_hire 37 = .ok (.iaload, 1) := by decide +kernel
theorem dX9_hire_38 : decode cX9_hire 38 = .ok (.iload_n 1, 1) := by decide +kernel
theorem dX9_hire_39 : decode cX9_hire 39 = .ok (.if_icmp .ne 5, 3) := by decide +kernel
theorem dX9_hire_42 : decode cX9_hire 42 = .ok (.iconst 0, 1) := by decide +kernel
theorem dX9_hire_43 : decode cX9_hire 43 = .ok (.ireturn, 1) := by decide +kernel
theorem dX9_hire_44 : decode cX9_hire 44 = .ok (.aload_n 0, 1) := by decide +kernel
theorem dX9_hire_45 : decode cX9_hire 45 = .ok (.getfield 10, 3) := by decide +kernel
theorem dX9_hire_48 : decode cX9_hire 48 = .ok (.getfield 216, 3) := by decide +kernel
theorem dX9_hire_51 : decode cX9_hire 51 = .ok (.iload_n 2, 1) := by decide +kernel
theorem dX9_hire_52 : decode cX9_hire 52 = .ok (.iload_n 1, 1) := by decide +kernel
theorem dX9_hire_53 : decode cX9_hire 53 = .ok (.iastore, 1) := by decide +kernel
theorem dX9_hire_54 : decode cX9_hire 54 = .ok (.iconst 1, 1) := by decide +kernel
theorem dX9_hire_55 : decode cX9_hire 55 = .ok (.ireturn, 1) := by decide +kernel
theorem dX9_leave_0 : decode cX9_leave 0 = .ok (.aload_n 0, 1) := by decide +kernel
theorem dX9_leave_1 : decode cX9_leave 1 = .ok (.getfield 10, 3) := by decide +kernel
theorem dX9_leave_4 : decode cX9_leave 4 = .ok (.iload_n 1, 1) := by decide +kernel
theorem dX9_leave_5 : decode cX9_leave 5 = .ok (.invokevirtual 112, 3) := by decide +kernel
theorem dX9_leave_8 : decode cX9_leave 8 = .ok (.ifCond .eq 16, 3) := by decide +kernel
theorem dX9_leave_11 : decode cX9_leave 11 = .ok (.aload_n 0, 1) := by decide +kernel
theorem dX9_leave_12 : decode cX9_leave 12 = .ok (.getfield 10, 3) := by decide +kernel
theorem dX9_leave_15 : decode cX9_leave 15 = .ok (.getfield 216, 3) := by decide +kernel
theorem dX9_leave_18 : decode cX9_leave 18 = .ok (.iload_n 1, 1) := by decide +kernel
theorem dX9_leave_19 : decode cX9_leave 19 = .ok (.iaload, 1) := by decide +kernel
theorem dX9_leave_20 : decode cX9_leave 20 = .ok (.iconst (-1), 1) := by decide +kernel
theorem dX9_leave_21 : decode cX9_leave 21 = .ok (.if_icmp .ne 5, 3) := by decide +kernel
theorem dX9_leave_24 : decode cX9_leave 24 = .ok (.iconst 0, 1) := by decide +kernel
theorem dX9_leave_25 : decode cX9_leave 25 = .ok (.ireturn, 1) := by decide +kernel
theorem dX9_leave_26 : decode cX9_leave 26 = .ok (.aload_n 0, 1) := by decide +kernel
theorem dX9_leave_27 : decode cX9_leave 27 = .ok (.getfield 10, 3) := by decide +kernel
theorem dX9_leave_30 : decode cX9_leave 30 = .ok (.getfield 216, 3) := by decide +kernel
theorem dX9_leave_33 : decode cX9_leave 33 = .ok (.iload_n 1, 1) := by decide +kernel
theorem dX9_leave_34 : decode cX9_leave 34 = .ok (.iconst (-1), 1) := by decide +kernel
theorem dX9_leave_35 : decode cX9_leave 35 = .ok (.iastore, 1) := by decide +kernel
theorem dX9_leave_36 : decode cX9_leave 36 = .ok (.iconst 1, 1) := by decide +kernel
theorem dX9_leave_37 : decode cX9_leave 37 = .ok (.ireturn, 1) := by decide +kernel
theorem dX9_number_0 : decode cX9_number 0 = .ok (.iload_n 1, 1) := by decide +kernel
theorem dX9_number_1 : decode cX9_number 1 = .ok (.ifCond .lt 26, 3) := by decide +kernel
theorem dX9_number_4 : decode cX9_number 4 = .ok (.iload_n 1, 1) := by decide +kernel
theorem dX9_number_5 : decode cX9_number 5 = .ok (.bipush 30, 2) := by decide +kernel
theorem dX9_number_7 : decode cX9_number 7 = .ok (.if_icmp .gt 20, 3) := by decide +kernel
theorem dX9_number_10 : decode cX9_number 10 = .ok (.iload_n 2, 1) := by decide +kernel
theorem dX9_number_11 : decode cX9_number 11 = .ok (.invokestatic 109, 3) := by decide +kernel
theorem dX9_number_14 : decode cX9_number 14 = .ok (.ifCond .eq 13, 3) := by decide +kernel
theorem dX9_number_17 : decode cX9_number 17 = .ok (.aload_n 0, 1) := by decide +kernel
theorem dX9_number_18 : decode cX9_number 18 = .ok (.getfield 61, 3) := by decide +kernel
theorem dX9_number_21 : decode cX9_number 21 = .ok (.invokevirtual 150, 3) := by decide +kernel
theorem dX9_number_24 : decode cX9_number 24 = .ok (.ifCond .eq 5, 3) := by decide +kernel
theorem dX9_number_27 : decode cX9_number 27 = .ok (.iconst 0, 1) := by decide +kernel
theorem dX9_number_28 : decode cX9_number 28 = .ok (.ireturn, 1) := by decide +kernel
theorem dX9_number_29 : decode cX9_number 29 = .ok (.aload_n 0, 1) := by decide +kernel
theorem dX9_number_30 : decode cX9_number 30 = .ok (.getfield 65, 3) := by decide +kernel
theorem dX9_number_33 : decode cX9_number 33 = .ok (.aload_n 0, 1) := by decide +kernel
theorem dX9_number_34 : decode cX9_number 34 = .ok (.getfield 61, 3) := by decide +kernel
theorem dX9_number_37 : decode cX9_number 37 = .ok (.iload_n 2, 1) := by decide +kernel
theorem dX9_number_38 : decode cX9_number 38 = .ok (.aload_n 0, 1) := by decide +kernel
theorem dX9_number_39 : decode cX9_number 39 = .ok (.getfield 79, 3) := by decide +kernel
theorem dX9_number_42 : decode cX9_number 42 = .ok (.invokevirtual 219, 3) := by decide +kernel
theorem dX9_number_45 : decode cX9_number 45 = .ok (.iload_n 1, 1) := by decide +kernel
theorem dX9_number_46 : decode cX9_number 46 = .ok (.iastore, 1) := by decide +kernel
theorem dX9_number_47 : decode cX9_number 47 = .ok (.iconst 1, 1) := by decide +kernel
theorem dX9_number_48 : decode cX9_number 48 = .ok (.ireturn, 1) := by decide +kernel
theorem dX9_hands_0 : decode cX9_hands 0 = .ok (.aload_n 0, 1) := by decide +kernel
theorem dX9_hands_1 : decode cX9_hands 1 = .ok (.getfield 10, 3) := by decide +kernel
theorem dX9_hands_4 : decode cX9_hands 4 = .ok (.iload_n 1, 1) := by decide +kernel
theorem dX9_hands_5 : decode cX9_hands 5 = .ok (.invokevirtual 98, 3) := by decide +kernel
theorem dX9_hands_8 : decode cX9_hands 8 = .ok (.ifCond .eq 14, 3) := by decide +kernel
theorem dX9_hands_11 : decode cX9_hands 11 = .ok (.aload_n 0, 1) := by decide +kernel
theorem dX9_hands_12 : decode cX9_hands 12 = .ok (.getfield 10, 3) := by decide +kernel
theorem dX9_hands_15 : decode cX9_hands 15 = .ok (.iload_n 1, 1) := by decide +kernel
theorem dX9_hands_16 : decode cX9_hands 16 = .ok (.invokevirtual 220, 3) := by decide +kernel
theorem dX9_hands_19 : decode cX9_hands 19 = .ok (.goto 4, 3) := by decide +kernel
theorem dX9_hands_22 : decode cX9_hands 22 = .ok (.iconst (-1), 1) := by decide +kernel
theorem dX9_hands_23 : decode cX9_hands 23 = .ok (.ireturn, 1) := by decide +kernel
theorem dX9_lawful_0 : decode cX9_lawful 0 = .ok (.aload_n 0, 1) := by decide +kernel
theorem dX9_lawful_1 : decode cX9_lawful 1 = .ok (.getfield 10, 3) := by decide +kernel
theorem dX9_lawful_4 : decode cX9_lawful 4 = .ok (.iload_n 1, 1) := by decide +kernel
theorem dX9_lawful_5 : decode cX9_lawful 5 = .ok (.invokevirtual 98, 3) := by decide +kernel
theorem dX9_lawful_8 : decode cX9_lawful 8 = .ok (.ifCond .ne 5, 3) := by decide +kernel
theorem dX9_lawful_11 : decode cX9_lawful 11 = .ok (.iconst (-1), 1) := by decide +kernel
theorem dX9_lawful_12 : decode cX9_lawful 12 = .ok (.ireturn, 1) := by decide +kernel
theorem dX9_lawful_13 : decode cX9_lawful 13 = .ok (.aload_n 0, 1) := by decide +kernel
theorem dX9_lawful_14 : decode cX9_lawful 14 = .ok (.getfield 10, 3) := by decide +kernel
theorem dX9_lawful_17 : decode cX9_lawful 17 = .ok (.iload_n 1, 1) := by decide +kernel
theorem dX9_lawful_18 : decode cX9_lawful 18 = .ok (.invokevirtual 220, 3) := by decide +kernel
theorem dX9_lawful_21 : decode cX9_lawful 21 = .ok (.aload_n 0, 1) := by decide +kernel
theorem dX9_lawful_22 : decode cX9_lawful 22 = .ok (.invokevirtual 223, 3) := by decide +kernel
theorem dX9_lawful_25 : decode cX9_lawful 25 = .ok (.if_icmp .gt 7, 3) := by decide +kernel
theorem dX9_lawful_28 : decode cX9_lawful 28 = .ok (.iconst 1, 1) := by decide +kernel
theorem dX9_lawful_29 : decode cX9_lawful 29 = .ok (.goto 4, 3) := by decide +kernel
theorem dX9_lawful_32 : decode cX9_lawful 32 = .ok (.iconst 0, 1) := by decide +kernel
theorem dX9_lawful_33 : decode cX9_lawful 33 = .ok (.istore_n 2, 1) := by decide +kernel
theorem dX9_lawful_34 : decode cX9_lawful 34 = .ok (.iload_n 2, 1) := by decide +kernel
theorem dX9_lawful_35 : decode cX9_lawful 35 = .ok (.ifCond .ne 19, 3) := by decide +kernel
theorem dX9_lawful_38 : decode cX9_lawful 38 = .ok (.aload_n 0, 1) := by decide +kernel
theorem dX9_lawful_39 : decode cX9_lawful 39 = .ok (.getfield 79, 3) := by decide +kernel
theorem dX9_lawful_42 : decode cX9_lawful 42 = .ok (.aload_n 0, 1) := by decide +kernel
theorem dX9_lawful_43 : decode cX9_lawful 43 = .ok (.getfield 10, 3) := by decide +kernel
theorem dX9_lawful_46 : decode cX9_lawful 46 = .ok (.getfield 226, 3) := by decide +kernel
theorem dX9_lawful_49 : decode cX9_lawful 49 = .ok (.iload_n 1, 1) := by decide +kernel
theorem dX9_lawful_50 : decode cX9_lawful 50 = .ok (.iaload, 1) := by decide +kernel
theorem dX9_lawful_51 : decode cX9_lawful 51 = .ok (.if_icmp .gt 7, 3) := by decide +kernel
theorem dX9_lawful_54 : decode cX9_lawful 54 = .ok (.iconst 1, 1) := by decide +kernel
theorem dX9_lawful_55 : decode cX9_lawful 55 = .ok (.goto 4, 3) := by decide +kernel
theorem dX9_lawful_58 : decode cX9_lawful 58 = .ok (.iconst 0, 1) := by decide +kernel
theorem dX9_lawful_59 : decode cX9_lawful 59 = .ok (.ireturn, 1) := by decide +kernel
theorem dX9_kin_0 : decode cX9_kin 0 = .ok (.aload_n 0, 1) := by decide +kernel
theorem dX9_kin_1 : decode cX9_kin 1 = .ok (.getfield 10, 3) := by decide +kernel
theorem dX9_kin_4 : decode cX9_kin 4 = .ok (.iload_n 1, 1) := by decide +kernel
theorem dX9_kin_5 : decode cX9_kin 5 = .ok (.invokevirtual 112, 3) := by decide +kernel
theorem dX9_kin_8 : decode cX9_kin 8 = .ok (.ifCond .eq 30, 3) := by decide +kernel
theorem dX9_kin_11 : decode cX9_kin 11 = .ok (.aload_n 0, 1) := by decide +kernel
theorem dX9_kin_12 : decode cX9_kin 12 = .ok (.getfield 10, 3) := by decide +kernel
theorem dX9_kin_15 : decode cX9_kin 15 = .ok (.iload_n 2, 1) := by decide +kernel
theorem dX9_kin_16 : decode cX9_kin 16 = .ok (.invokevirtual 112, 3) := by decide +kernel
theorem dX9_kin_19 : decode cX9_kin 19 = .ok (.ifCond .eq 19, 3) := by decide +kernel
theorem dX9_kin_22 : decode cX9_kin 22 = .ok (.aload_n 0, 1) := by decide +kernel
theorem dX9_kin_23 : decode cX9_kin 23 = .ok (.getfield 10, 3) := by decide +kernel
theorem dX9_kin_26 : decode cX9_kin 26 = .ok (.iload_n 1, 1) := by decide +kernel
theorem dX9_kin_27 : decode cX9_kin 27 = .ok (.iload_n 2, 1) := by decide +kernel
theorem dX9_kin_28 : decode cX9_kin 28 = .ok (.invokevirtual 229, 3) := by decide +kernel
theorem dX9_kin_31 : decode cX9_kin 31 = .ok (.ifCond .eq 7, 3) := by decide +kernel
theorem dX9_kin_34 : decode cX9_kin 34 = .ok (.iconst 1, 1) := by decide +kernel
theorem dX9_kin_35 : decode cX9_kin 35 = .ok (.goto 4, 3) := by decide +kernel
theorem dX9_kin_38 : decode cX9_kin 38 = .ok (.iconst 0, 1) := by decide +kernel
theorem dX9_kin_39 : decode cX9_kin 39 = .ok (.ireturn, 1) := by decide +kernel
theorem dX9_look_0 : decode cX9_look 0 = .ok (.aload_n 0, 1) := by decide +kernel
theorem dX9_look_1 : decode cX9_look 1 = .ok (.getfield 19, 3) := by decide +kernel
theorem dX9_look_4 : decode cX9_look 4 = .ok (.iload_n 1, 1) := by decide +kernel
theorem dX9_look_5 : decode cX9_look 5 = .ok (.invokevirtual 119, 3) := by decide +kernel
theorem dX9_look_8 : decode cX9_look 8 = .ok (.ifCond .ne 13, 3) := by decide +kernel
theorem dX9_look_11 : decode cX9_look 11 = .ok (.new 232, 3) := by decide +kernel
theorem dX9_look_14 : decode cX9_look 14 = .ok (.dup, 1) := by decide +kernel
theorem dX9_look_15 : decode cX9_look 15 = .ok (.ldc 234, 2) := by decide +kernel
theorem dX9_look_17 : decode cX9_look 17 = .ok (.invokespecial 236, 3) := by decide +kernel
theorem dX9_look_20 : decode cX9_look 20 = .ok (.athrow, 1) := by decide +kernel
theorem dX9_look_21 : decode cX9_look 21 = .ok (.iload_n 2, 1) := by decide +kernel
theorem dX9_look_22 : decode cX9_look 22 = .ok (.tableswitch 98 0 5 #[38, 48, 58, 68, 78, 88], 38) := by decide +kernel
theorem dX9_look_60 : decode cX9_look 60 = .ok (.aload_n 0, 1) := by decide +kernel
theorem dX9_look_61 : decode cX9_look 61 = .ok (.getfield 19, 3) := by decide +kernel
theorem dX9_look_64 : decode cX9_look 64 = .ok (.getfield 239, 3) := by decide +kernel
theorem dX9_look_67 : decode cX9_look 67 = .ok (.iload_n 1, 1) := by decide +kernel
theorem dX9_look_68 : decode cX9_look 68 = .ok (.iaload, 1) := by decide +kernel
theorem dX9_look_69 : decode cX9_look 69 = .ok (.ireturn, 1) := by decide +kernel
theorem dX9_look_70 : decode cX9_look 70 = .ok (.aload_n 0, 1) := by decide +kernel
theorem dX9_look_71 : decode cX9_look 71 = .ok (.getfield 19, 3) := by decide +kernel
theorem dX9_look_74 : decode cX9_look 74 = .ok (.getfield 242, 3) := by decide +kernel
theorem dX9_look_77 : decode cX9_look 77 = .ok (.iload_n 1, 1) := by decide +kernel
theorem dX9_look_78 : decode cX9_look 78 = .ok (.iaload, 1) := by decide +kernel
theorem dX9_look_79 : decode cX9_look 79 = .ok (.ireturn, 1) := by decide +kernel
theorem dX9_look_80 : decode cX9_look 80 = .ok (.aload_n 0, 1) := by decide +kernel
theorem dX9_look_81 : decode cX9_look 81 = .ok (.getfield 19, 3) := by decide +kernel
theorem dX9_look_84 : decode cX9_look 84 = .ok (.getfield 245, 3) := by decide +kernel
theorem dX9_look_87 : decode cX9_look 87 = .ok (.iload_n 1, 1) := by decide +kernel
theorem dX9_look_88 : decode cX9_look 88 = .ok (.iaload, 1) := by decide +kernel
theorem dX9_look_89 : decode cX9_look 89 = .ok (.ireturn, 1) := by decide +kernel
theorem dX9_look_90 : decode cX9_look 90 = .ok (.aload_n 0, 1) := by decide +kernel
theorem dX9_look_91 : decode cX9_look 91 = .ok (.getfield 19, 3) := by decide +kernel
theorem dX9_look_94 : decode cX9_look 94 = .ok (.getfield 248, 3) := by decide +kernel
theorem dX9_look_97 : decode cX9_look 97 = .ok (.iload_n 1, 1) := by decide +kernel
theorem dX9_look_98 : decode cX9_look 98 = .ok (.iaload, 1) := by decide +kernel
theorem dX9_look_99 : decode cX9_look 99 = .ok (.ireturn, 1) := by decide +kernel
theorem dX9_look_100 : decode cX9_look 100 = .ok (.aload_n 0, 1) := by decide +kernel
theorem dX9_look_101 : decode cX9_look 101 = .ok (.getfield 19, 3) := by decide +kernel
theorem dX9_look_104 : decode cX9_look 104 = .ok (.getfield 251, 3) := by decide +kernel
theorem dX9_look_107 : decode cX9_look 107 = .ok (.iload_n 1, 1) := by decide +kernel
theorem dX9_look_108 : decode cX9_look 108 = .ok (.iaload, 1) := by decide +kernel
theorem dX9_look_109 : decode cX9_look 109 = .ok (.ireturn, 1) := by decide +kernel
theorem dX9_look_110 : decode cX9_look 110 = .ok (.aload_n 0, 1) := by decide +kernel
theorem dX9_look_111 : decode cX9_look 111 = .ok (.getfield 19, 3) := by decide +kernel
theorem dX9_look_114 : decode cX9_look 114 = .ok (.getfield 254, 3) := by decide +kernel
theorem dX9_look_117 : decode cX9_look 117 = .ok (.iload_n 1, 1) := by decide +kernel
theorem dX9_look_118 : decode cX9_look 118 = .ok (.iaload, 1) := by decide +kernel
theorem dX9_look_119 : decode cX9_look 119 = .ok (.ireturn, 1) := by decide +kernel
theorem dX9_look_120 : decode cX9_look 120 = .ok (.new 232, 3) := by decide +kernel
theorem dX9_look_123 : decode cX9_look 123 = .ok (.dup, 1) := by decide +kernel
theorem dX9_look_124 : decode cX9_look 124 = .ok (.ldc_w 257, 3) := by decide +kernel
theorem dX9_look_127 : decode cX9_look 127 = .ok (.invokespecial 236, 3) := by decide +kernel
theorem dX9_look_130 : decode cX9_look 130 = .ok (.athrow, 1) := by decide +kernel
theorem dX9_count_0 : decode cX9_count 0 = .ok (.iload_n 1, 1) := by decide +kernel
theorem dX9_count_1 : decode cX9_count 1 = .ok (.tableswitch 111 0 7 #[47, 52, 60, 68, 76, 87, 95, 103], 47) := by decide +kernel
theorem dX9_count_48 : decode cX9_count 48 = .ok (.aload_n 0, 1) := by decide +kernel
theorem dX9_count_49 : decode cX9_count 49 = .ok (.getfield 79, 3) := by decide +kernel
theorem dX9_count_52 : decode cX9_count 52 = .ok (.ireturn, 1) := by decide +kernel
theorem dX9_count_53 : decode cX9_count 53 = .ok (.aload_n 0, 1) := by decide +kernel
theorem dX9_count_54 : decode cX9_count 54 = .ok (.getfield 10, 3) := by decide +kernel
theorem dX9_count_57 : decode cX9_count 57 = .ok (.getfield 259, 3) := by decide +kernel
theorem dX9_count_60 : decode cX9_count 60 = .ok (.ireturn, 1) := by decide +kernel
theorem dX9_count_61 : decode cX9_count 61 = .ok (.aload_n 0, 1) := by decide +kernel
theorem dX9_count_62 : decode cX9_count 62 = .ok (.getfield 10, 3) := by decide +kernel
theorem dX9_count_65 : decode cX9_count 65 = .ok (.invokevirtual 262, 3) := by decide +kernel
theorem dX9_count_68 : decode cX9_count 68 = .ok (.ireturn, 1) := by decide +kernel
theorem dX9_count_69 : decode cX9_count 69 = .ok (.aload_n 0, 1) := by decide +kernel
theorem dX9_count_70 : decode cX9_count 70 = .ok (.getfield 19, 3) := by decide +kernel
theorem dX9_count_73 : decode cX9_count 73 = .ok (.getfield 265, 3) := by decide +kernel
theorem dX9_count_76 : decode cX9_count 76 = .ok (.ireturn, 1) := by decide +kernel
theorem dX9_count_77 : decode cX9_count 77 = .ok (.aload_n 0, 1) := by decide +kernel
theorem dX9_count_78 : decode cX9_count 78 = .ok (.getfield 47, 3) := by decide +kernel
theorem dX9_count_81 : decode cX9_count 81 = .ok (.getfield 147, 3) := by decide +kernel
theorem dX9_count_84 : decode cX9_count 84 = .ok (.getfield 266, 3) := by decide +kernel
theorem dX9_count_87 : decode cX9_count 87 = .ok (.ireturn, 1) := by decide +kernel
theorem dX9_count_88 : decode cX9_count 88 = .ok (.aload_n 0, 1) := by decide +kernel
theorem dX9_count_89 : decode cX9_count 89 = .ok (.getfield 72, 3) := by decide +kernel
theorem dX9_count_92 : decode cX9_count 92 = .ok (.getfield 267, 3) := by decide +kernel
theorem dX9_count_95 : decode cX9_count 95 = .ok (.ireturn, 1) := by decide +kernel
theorem dX9_count_96 : decode cX9_count 96 = .ok (.aload_n 0, 1) := by decide +kernel
theorem dX9_count_97 : decode cX9_count 97 = .ok (.getfield 33, 3) := by decide +kernel
theorem dX9_count_100 : decode cX9_count 100 = .ok (.getfield 136, 3) := by decide +kernel
theorem dX9_count_103 : decode cX9_count 103 = .ok (.ireturn, 1) := by decide +kernel
theorem dX9_count_104 : decode cX9_count 104 = .ok (.aload_n 0, 1) := by decide +kernel
theorem dX9_count_105 : decode cX9_count 105 = .ok (.getfield 10, 3) := by decide +kernel
theorem dX9_count_108 : decode cX9_count 108 = .ok (.invokevirtual 268, 3) := by decide +kernel
theorem dX9_count_111 : decode cX9_count 111 = .ok (.ireturn, 1) := by decide +kernel
theorem dX9_count_112 : decode cX9_count 112 = .ok (.iconst (-1), 1) := by decide +kernel
theorem dX9_count_113 : decode cX9_count 113 = .ok (.ireturn, 1) := by decide +kernel
theorem dX9_isDay_0 : decode cX9_isDay 0 = .ok (.iload_n 0, 1) := by decide +kernel
theorem dX9_isDay_1 : decode cX9_isDay 1 = .ok (.ifCond .lt 14, 3) := by decide +kernel
theorem dX9_isDay_4 : decode cX9_isDay 4 = .ok (.iload_n 0, 1) := by decide +kernel
theorem dX9_isDay_5 : decode cX9_isDay 5 = .ok (.sipush 20000, 3) := by decide +kernel
theorem dX9_isDay_8 : decode cX9_isDay 8 = .ok (.if_icmp .gt 7, 3) := by decide +kernel
theorem dX9_isDay_11 : decode cX9_isDay 11 = .ok (.iconst 1, 1) := by decide +kernel
theorem dX9_isDay_12 : decode cX9_isDay 12 = .ok (.goto 4, 3) := by decide +kernel
theorem dX9_isDay_15 : decode cX9_isDay 15 = .ok (.iconst 0, 1) := by decide +kernel
theorem dX9_isDay_16 : decode cX9_isDay 16 = .ok (.ireturn, 1) := by decide +kernel
theorem dX9_isAskable_0 : decode cX9_isAskable 0 = .ok (.iload_n 1, 1) := by decide +kernel
theorem dX9_isAskable_1 : decode cX9_isAskable 1 = .ok (.invokestatic 109, 3) := by decide +kernel
theorem dX9_isAskable_4 : decode cX9_isAskable 4 = .ok (.ifCond .eq 19, 3) := by decide +kernel
theorem dX9_isAskable_7 : decode cX9_isAskable 7 = .ok (.iload_n 2, 1) := by decide +kernel
theorem dX9_isAskable_8 : decode cX9_isAskable 8 = .ok (.ifCond .lt 15, 3) := by decide +kernel
theorem dX9_isAskable_11 : decode cX9_isAskable 11 = .ok (.iload_n 2, 1) := by decide +kernel
theorem dX9_isAskable_12 : decode cX9_isAskable 12 = .ok (.aload_n 0, 1) := by decide +kernel
theorem dX9_isAskable_13 : decode cX9_isAskable 13 = .ok (.getfield 79, 3) := by decide +kernel
theorem dX9_isAskable_16 : decode cX9_isAskable 16 = .ok (.if_icmp .gt 7, 3) := by decide +kernel
theorem dX9_isAskable_19 : decode cX9_isAskable 19 = .ok (.iconst 1, 1) := by decide +kernel
theorem dX9_isAskable_20 : decode cX9_isAskable 20 = .ok (.goto 4, 3) := by decide +kernel
theorem dX9_isAskable_23 : decode cX9_isAskable 23 = .ok (.iconst 0, 1) := by decide +kernel
theorem dX9_isAskable_24 : decode cX9_isAskable 24 = .ok (.ireturn, 1) := by decide +kernel
theorem dX9_valueOf_0 : decode cX9_valueOf 0 = .ok (.iload_n 3, 1) := by decide +kernel
theorem dX9_valueOf_1 : decode cX9_valueOf 1 = .ok (.iload 4, 2) := by decide +kernel
theorem dX9_valueOf_3 : decode cX9_valueOf 3 = .ok (.invokestatic 271, 3) := by decide +kernel
theorem dX9_valueOf_6 : decode cX9_valueOf 6 = .ok (.istore 5, 2) := by decide +kernel
theorem dX9_valueOf_8 : decode cX9_valueOf 8 = .ok (.iload_n 2, 1) := by decide +kernel
theorem dX9_valueOf_9 : decode cX9_valueOf 9 = .ok (.tableswitch 148 0 6 #[43, 56, 69, 87, 105, 116, 135], 43) := by decide +kernel
theorem dX9_valueOf_52 : decode cX9_valueOf 52 = .ok (.aload_n 0, 1) := by decide +kernel
theorem dX9_valueOf_53 : decode cX9_valueOf 53 = .ok (.getfield 19, 3) := by decide +kernel
theorem dX9_valueOf_56 : decode cX9_valueOf 56 = .ok (.iconst 0, 1) := by decide +kernel
theorem dX9_valueOf_57 : decode cX9_valueOf 57 = .ok (.iload_n 1, 1) := by decide +kernel
theorem dX9_valueOf_58 : decode cX9_valueOf 58 = .ok (.iload_n 3, 1) := by decide +kernel
theorem dX9_valueOf_59 : decode cX9_valueOf 59 = .ok (.iload 4, 2) := by decide +kernel
theorem dX9_valueOf_61 : decode cX9_valueOf 61 = .ok (.invokevirtual 276, 3) := by decide +kernel
theorem dX9_valueOf_64 : decode cX9_valueOf 64 = .ok (.ireturn, 1) := by decide +kernel
theorem dX9_valueOf_65 : decode cX9_valueOf 65 = .ok (.aload_n 0, 1) := by decide +kernel
theorem dX9_valueOf_66 : decode cX9_valueOf 66 = .ok (.getfield 19, 3) := by decide +kernel
theorem dX9_valueOf_69 : decode cX9_valueOf 69 = .ok (.iconst 1, 1) := by decide +kernel
theorem dX9_valueOf_70 : decode cX9_valueOf 70 = .ok (.iload_n 1, 1) := by decide +kernel
theorem dX9_valueOf_71 : decode cX9_valueOf 71 = .ok (.iload_n 3, 1) := by decide +kernel
theorem dX9_valueOf_72 : decode cX9_valueOf 72 = .ok (.iload 4, 2) := by decide +kernel
theorem dX9_valueOf_74 : decode cX9_valueOf 74 = .ok (.invokevirtual 276, 3) := by decide +kernel
theorem dX9_valueOf_77 : decode cX9_valueOf 77 = .ok (.ireturn, 1) := by decide +kernel
theorem dX9_valueOf_78 : decode cX9_valueOf 78 = .ok (.aload_n 0, 1) := by decide +kernel
theorem dX9_valueOf_79 : decode cX9_valueOf 79 = .ok (.getfield 26, 3) := by decide +kernel
theorem dX9_valueOf_82 : decode cX9_valueOf 82 = .ok (.aload_n 0, 1) := by decide +kernel
theorem dX9_valueOf_83 : decode cX9_valueOf 83 = .ok (.getfield 26, 3) := by decide +kernel
theorem dX9_valueOf_86 : decode cX9_valueOf 86 = .ok (.getfield 279, 3) := by decide +kernel
theorem dX9_valueOf_89 : decode cX9_valueOf 89 = .ok (.iload_n 1, 1) := by decide +kernel
theorem dX9_valueOf_90 : decode cX9_valueOf 90 = .ok (.iload 5, 2) := by decide +kernel
theorem dX9_valueOf_92 : decode cX9_valueOf 92 = .ok (.invokevirtual 282, 3) := by decide +kernel
theorem dX9_valueOf_95 : decode cX9_valueOf 95 = .ok (.ireturn, 1) := by decide +kernel
theorem dX9_valueOf_96 : decode cX9_valueOf 96 = .ok (.aload_n 0, 1) := by decide +kernel
theorem dX9_valueOf_97 : decode cX9_valueOf 97 = .ok (.getfield 26, 3) := by decide +kernel
theorem dX9_valueOf_100 : decode cX9_valueOf 100 = .ok (.aload_n 0, 1) := by decide +kernel
theorem dX9_valueOf_101 : decode cX9_valueOf 101 = .ok (.getfield 26, 3) := by decide +kernel
theorem dX9_valueOf_104 : decode cX9_valueOf 104 = .ok (.getfield 286, 3) := by decide +kernel
theorem dX9_valueOf_107 : decode cX9_valueOf 107 = .ok (.iload_n 1, 1) := by decide +kernel
theorem dX9_valueOf_108 : decode cX9_valueOf 108 = .ok (.iload 5, 2) := by decide +kernel
theorem dX9_valueOf_110 : decode cX9_valueOf 110 = .ok (.invokevirtual 282, 3) := by decide +kernel
theorem dX9_valueOf_113 : decode cX9_valueOf 113 = .ok (.ireturn, 1) := by decide +kernel
theorem dX9_valueOf_114 : decode cX9_valueOf 114 = .ok (.aload_n 0, 1) := by decide +kernel
theorem dX9_valueOf_115 : decode cX9_valueOf 115 = .ok (.getfield 72, 3) := by decide +kernel
theorem dX9_valueOf_118 : decode cX9_valueOf 118 = .ok (.iload_n 1, 1) := by decide +kernel
theorem dX9_valueOf_119 : decode cX9_valueOf 119 = .ok (.iload 5, 2) := by decide +kernel
theorem dX9_valueOf_121 : decode cX9_valueOf 121 = .ok (.invokevirtual 289, 3) := by decide +kernel
theorem dX9_valueOf_124 : decode cX9_valueOf 124 = .ok (.ireturn, 1) := by decide +kernel
theorem dX9_valueOf_125 : decode cX9_valueOf 125 = .ok (.aload_n 0, 1) := by decide +kernel
theorem dX9_valueOf_126 : decode cX9_valueOf 126 = .ok (.getfield 10, 3) := by decide +kernel
theorem dX9_valueOf_129 : decode cX9_valueOf 129 = .ok (.iload_n 1, 1) := by decide +kernel
theorem dX9_valueOf_130 : decode cX9_valueOf 130 = .ok (.iload 5, 2) := by decide +kernel
theorem dX9_valueOf_132 : decode cX9_valueOf 132 = .ok (.invokevirtual 292, 3) := by decide +kernel
theorem dX9_valueOf_135 : decode cX9_valueOf 135 = .ok (.ifCond .eq 7, 3) := by decide +kernel
theorem dX9_valueOf_138 : decode cX9_valueOf 138 = .ok (.iconst 1, 1) := by decide +kernel
theorem dX9_valueOf_139 : decode cX9_valueOf 139 = .ok (.goto 4, 3) := by decide +kernel
theorem dX9_valueOf_142 : decode cX9_valueOf 142 = .ok (.iconst 0, 1) := by decide +kernel
theorem dX9_valueOf_143 : decode cX9_valueOf 143 = .ok (.ireturn, 1) := by decide +kernel
theorem dX9_valueOf_144 : decode cX9_valueOf 144 = .ok (.aload_n 0, 1) := by decide +kernel
theorem dX9_valueOf_145 : decode cX9_valueOf 145 = .ok (.getfield 19, 3) := by decide +kernel
theorem dX9_valueOf_148 : decode cX9_valueOf 148 = .ok (.iconst 2, 1) := by decide +kernel
theorem dX9_valueOf_149 : decode cX9_valueOf 149 = .ok (.iload_n 1, 1) := by decide +kernel
theorem dX9_valueOf_150 : decode cX9_valueOf 150 = .ok (.iload_n 3, 1) := by decide +kernel
theorem dX9_valueOf_151 : decode cX9_valueOf 151 = .ok (.iload 4, 2) := by decide +kernel
theorem dX9_valueOf_153 : decode cX9_valueOf 153 = .ok (.invokevirtual 276, 3) := by decide +kernel
theorem dX9_valueOf_156 : decode cX9_valueOf 156 = .ok (.ireturn, 1) := by decide +kernel
theorem dX9_valueOf_157 : decode cX9_valueOf 157 = .ok (.iconst (-1), 1) := by decide +kernel
theorem dX9_valueOf_158 : decode cX9_valueOf 158 = .ok (.ireturn, 1) := by decide +kernel
theorem dX9_mayCome_0 : decode cX9_mayCome 0 = .ok (.aload_n 0, 1) := by decide +kernel
theorem dX9_mayCome_1 : decode cX9_mayCome 1 = .ok (.getfield 47, 3) := by decide +kernel
theorem dX9_mayCome_4 : decode cX9_mayCome 4 = .ok (.getfield 147, 3) := by decide +kernel
theorem dX9_mayCome_7 : decode cX9_mayCome 7 = .ok (.iload_n 2, 1) := by decide +kernel
theorem dX9_mayCome_8 : decode cX9_mayCome 8 = .ok (.iload_n 3, 1) := by decide +kernel
theorem dX9_mayCome_9 : decode cX9_mayCome 9 = .ok (.invokevirtual 162, 3) := by decide +kernel
theorem dX9_mayCome_12 : decode cX9_mayCome 12 = .ok (.istore 4, 2) := by decide +kernel
theorem dX9_mayCome_14 : decode cX9_mayCome 14 = .ok (.iload 4, 2) := by decide +kernel
theorem dX9_mayCome_16 : decode cX9_mayCome 16 = .ok (.iconst (-1), 1) := by decide +kernel
theorem dX9_mayCome_17 : decode cX9_mayCome 17 = .ok (.if_icmp .ne 5, 3) := by decide +kernel
theorem dX9_mayCome_20 : decode cX9_mayCome 20 = .ok (.iconst 1, 1) := by decide +kernel
theorem dX9_mayCome_21 : decode cX9_mayCome 21 = .ok (.ireturn, 1) := by decide +kernel
theorem dX9_mayCome_22 : decode cX9_mayCome 22 = .ok (.iconst 0, 1) := by decide +kernel
theorem dX9_mayCome_23 : decode cX9_mayCome 23 = .ok (.istore 5, 2) := by decide +kernel
theorem dX9_mayCome_25 : decode cX9_mayCome 25 = .ok (.iload 5, 2) := by decide +kernel
theorem dX9_mayCome_27 : decode cX9_mayCome 27 = .ok (.bipush 6, 2) := by decide +kernel
theorem dX9_mayCome_29 : decode cX9_mayCome 29 = .ok (.if_icmp .ge 28, 3) := by decide +kernel
theorem dX9_mayCome_32 : decode cX9_mayCome 32 = .ok (.aload_n 0, 1) := by decide +kernel
theorem dX9_mayCome_33 : decode cX9_mayCome 33 = .ok (.getfield 54, 3) := by decide +kernel
theorem dX9_mayCome_36 : decode cX9_mayCome 36 = .ok (.getfield 295, 3) := by decide +kernel
theorem dX9_mayCome_39 : decode cX9_mayCome 39 = .ok (.iload 5, 2) := by decide +kernel
theorem dX9_mayCome_41 : decode cX9_mayCome 41 = .ok (.aload_n 0, 1) := by decide +kernel
theorem dX9_mayCome_42 : decode cX9_mayCome 42 = .ok (.iload_n 1, 1) := by decide +kernel
theorem dX9_mayCome_43 : decode cX9_mayCome 43 = .ok (.iload 5, 2) := by decide +kernel
theorem dX9_mayCome_45 : decode cX9_mayCome 45 = .ok (.iload_n 2, 1) := by decide +kernel
theorem dX9_mayCome_46 : decode cX9_mayCome 46 = .ok (.iload_n 3, 1) := by decide +kernel
theorem dX9_mayCome_47 : decode cX9_mayCome 47 = .ok (.invokevirtual 165, 3) := by decide +kernel
theorem dX9_mayCome_50 : decode cX9_mayCome 50 = .ok (.iastore, 1) := by decide +kernel
theorem dX9_mayCome_51 : decode cX9_mayCome 51 = .ok (.iinc 5 1, 3) := by decide +kernel
theorem dX9_mayCome_54 : decode cX9_mayCome 54 = .ok (.goto (-29), 3) := by decide +kernel
theorem dX9_mayCome_57 : decode cX9_mayCome 57 = .ok (.aload_n 0, 1) := by decide +kernel
theorem dX9_mayCome_58 : decode cX9_mayCome 58 = .ok (.getfield 47, 3) := by decide +kernel
theorem dX9_mayCome_61 : decode cX9_mayCome 61 = .ok (.iload 4, 2) := by decide +kernel
theorem dX9_mayCome_63 : decode cX9_mayCome 63 = .ok (.aload_n 0, 1) := by decide +kernel
theorem dX9_mayCome_64 : decode cX9_mayCome 64 = .ok (.getfield 54, 3) := by decide +kernel
theorem dX9_mayCome_67 : decode cX9_mayCome 67 = .ok (.invokevirtual 298, 3) := by decide +kernel
theorem dX9_mayCome_70 : decode cX9_mayCome 70 = .ok (.ifCond .eq 5, 3) := by decide +kernel
theorem dX9_mayCome_73 : decode cX9_mayCome 73 = .ok (.iconst 1, 1) := by decide +kernel
theorem dX9_mayCome_74 : decode cX9_mayCome 74 = .ok (.ireturn, 1) := by decide +kernel
theorem dX9_mayCome_75 : decode cX9_mayCome 75 = .ok (.aload_n 0, 1) := by decide +kernel
theorem dX9_mayCome_76 : decode cX9_mayCome 76 = .ok (.getfield 19, 3) := by decide +kernel
theorem dX9_mayCome_79 : decode cX9_mayCome 79 = .ok (.iload_n 1, 1) := by decide +kernel
theorem dX9_mayCome_80 : decode cX9_mayCome 80 = .ok (.iload_n 2, 1) := by decide +kernel
theorem dX9_mayCome_81 : decode cX9_mayCome 81 = .ok (.iload_n 3, 1) := by decide +kernel
theorem dX9_mayCome_82 : decode cX9_mayCome 82 = .ok (.invokevirtual 302, 3) := by decide +kernel
theorem dX9_mayCome_85 : decode cX9_mayCome 85 = .ok (.istore 5, 2) := by decide +kernel
theorem dX9_mayCome_87 : decode cX9_mayCome 87 = .ok (.iload 5, 2) := by decide +kernel
theorem dX9_mayCome_89 : decode cX9_mayCome 89 = .ok (.iconst (-1), 1) := by decide +kernel
theorem dX9_mayCome_90 : decode cX9_mayCome 90 = .ok (.if_icmp .ne 5, 3) := by decide +kernel
theorem dX9_mayCome_93 : decode cX9_mayCome 93 = .ok (.iconst 0, 1) := by decide +kernel
theorem dX9_mayCome_94 : decode cX9_mayCome 94 = .ok (.ireturn, 1) := by decide +kernel
theorem dX9_mayCome_95 : decode cX9_mayCome 95 = .ok (.aload_n 0, 1) := by decide +kernel
theorem dX9_mayCome_96 : decode cX9_mayCome 96 = .ok (.getfield 47, 3) := by decide +kernel
theorem dX9_mayCome_99 : decode cX9_mayCome 99 = .ok (.getfield 147, 3) := by decide +kernel
theorem dX9_mayCome_102 : decode cX9_mayCome 102 = .ok (.iload 5, 2) := by decide +kernel
theorem dX9_mayCome_104 : decode cX9_mayCome 104 = .ok (.iload_n 3, 1) := by decide +kernel
theorem dX9_mayCome_105 : decode cX9_mayCome 105 = .ok (.invokevirtual 162, 3) := by decide +kernel
theorem dX9_mayCome_108 : decode cX9_mayCome 108 = .ok (.istore 6, 2) := by decide +kernel
theorem dX9_mayCome_110 : decode cX9_mayCome 110 = .ok (.iload 6, 2) := by decide +kernel
theorem dX9_mayCome_112 : decode cX9_mayCome 112 = .ok (.iconst (-1), 1) := by decide +kernel
theorem dX9_mayCome_113 : decode cX9_mayCome 113 = .ok (.if_icmp .eq 19, 3) := by decide +kernel
theorem dX9_mayCome_116 : decode cX9_mayCome 116 = .ok (.aload_n 0, 1) := by decide +kernel
theorem dX9_mayCome_117 : decode cX9_mayCome 117 = .ok (.getfield 47, 3) := by decide +kernel
theorem dX9_mayCome_120 : decode cX9_mayCome 120 = .ok (.iload 6, 2) := by decide +kernel
theorem dX9_mayCome_122 : decode cX9_mayCome 122 = .ok (.aload_n 0, 1) := by decide +kernel
theorem dX9_mayCome_123 : decode cX9_mayCome 123 = .ok (.getfield 54, 3) := by decide +kernel
theorem dX9_mayCome_126 : decode cX9_mayCome 126 = .ok (.invokevirtual 298, 3) := by decide +kernel
theorem dX9_mayCome_129 : decode cX9_mayCome 129 = .ok (.ifCond .eq 7, 3) := by decide +kernel
theorem dX9_mayCome_132 : decode cX9_mayCome 132 = .ok (.iconst 2, 1) := by decide +kernel
theorem dX9_mayCome_133 : decode cX9_mayCome 133 = .ok (.goto 4, 3) := by decide +kernel
theorem dX9_mayCome_136 : decode cX9_mayCome 136 = .ok (.iconst 0, 1) := by decide +kernel
theorem dX9_mayCome_137 : decode cX9_mayCome 137 = .ok (.ireturn, 1) := by decide +kernel
theorem dX9_seatFitJudges_0 : decode cX9_seatFitJudges 0 = .ok (.iconst 0, 1) := by decide +kernel
theorem dX9_seatFitJudges_1 : decode cX9_seatFitJudges 1 = .ok (.istore_n 2, 1) := by decide +kernel
theorem dX9_seatFitJudges_2 : decode cX9_seatFitJudges 2 = .ok (.iconst 0, 1) := by decide +kernel
theorem dX9_seatFitJudges_3 : decode cX9_seatFitJudges 3 = .ok (.istore_n 3, 1) := by decide +kernel
theorem dX9_seatFitJudges_4 : decode cX9_seatFitJudges 4 = .ok (.iload_n 3, 1) := by decide +kernel
theorem dX9_seatFitJudges_5 : decode cX9_seatFitJudges 5 = .ok (.aload_n 0, 1) := by decide +kernel
theorem dX9_seatFitJudges_6 : decode cX9_seatFitJudges 6 = .ok (.getfield 10, 3) := by decide +kernel
theorem dX9_seatFitJudges_9 : decode cX9_seatFitJudges 9 = .ok (.getfield 259, 3) := by decide +kernel
theorem dX9_seatFitJudges_12 : decode cX9_seatFitJudges 12 = .ok (.if_icmp .ge 58, 3) := by decide +kernel
theorem dX9_seatFitJudges_15 : decode cX9_seatFitJudges 15 = .ok (.aload_n 0, 1) := by decide +kernel
theorem dX9_seatFitJudges_16 : decode cX9_seatFitJudges 16 = .ok (.getfield 10, 3) := by decide +kernel
theorem dX9_seatFitJudges_19 : decode cX9_seatFitJudges 19 = .ok (.iload_n 3, 1) := by decide +kernel
theorem dX9_seatFitJudges_20 : decode cX9_seatFitJudges 20 = .ok (.invokevirtual 98, 3) := by decide +kernel
theorem dX9_seatFitJudges_23 : decode cX9_seatFitJudges 23 = .ok (.ifCond .eq 41, 3) := by decide +kernel
theorem dX9_seatFitJudges_26 : decode cX9_seatFitJudges 26 = .ok (.aload_n 0, 1) := by decide +kernel
theorem dX9_seatFitJudges_27 : decode cX9_seatFitJudges 27 = .ok (.getfield 10, 3) := by decide +kernel
theorem dX9_seatFitJudges_30 : decode cX9_seatFitJudges 30 = .ok (.iload_n 3, 1) := by decide +kernel
theorem dX9_seatFitJudges_31 : decode cX9_seatFitJudges 31 = .ok (.iload_n 1, 1) := by decide +kernel
theorem dX9_seatFitJudges_32 : decode cX9_seatFitJudges 32 = .ok (.invokevirtual 229, 3) := by decide +kernel
theorem dX9_seatFitJudges_35 : decode cX9_seatFitJudges 35 = .ok (.ifCond .ne 29, 3) := by decide +kernel
theorem dX9_seatFitJudges_38 : decode cX9_seatFitJudges 38 = .ok (.aload_n 0, 1) := by decide +kernel
theorem dX9_seatFitJudges_39 : decode cX9_seatFitJudges 39 = .ok (.getfield 19, 3) := by decide +kernel
theorem dX9_seatFitJudges_42 : decode cX9_seatFitJudges 42 = .ok (.iload_n 1, 1) := by decide +kernel
theorem dX9_seatFitJudges_43 : decode cX9_seatFitJudges 43 = .ok (.iload_n 3, 1) := by decide +kernel
theorem dX9_seatFitJudges_44 : decode cX9_seatFitJudges 44 = .ok (.aload_n 0, 1) := by decide +kernel
theorem dX9_seatFitJudges_45 : decode cX9_seatFitJudges 45 = .ok (.getfield 79, 3) := by decide +kernel
theorem dX9_seatFitJudges_48 : decode cX9_seatFitJudges 48 = .ok (.invokevirtual 305, 3) := by decide +kernel
theorem dX9_seatFitJudges_51 : decode cX9_seatFitJudges 51 = .ok (.ifCond .ne 13, 3) := by decide +kernel
theorem dX9_seatFitJudges_54 : decode cX9_seatFitJudges 54 = .ok (.aload_n 0, 1) := by decide +kernel
theorem dX9_seatFitJudges_55 : decode cX9_seatFitJudges 55 = .ok (.getfield 76, 3) := by decide +kernel
theorem dX9_seatFitJudges_58 : decode cX9_seatFitJudges 58 = .ok (.iload_n 2, 1) := by decide +kernel
theorem dX9_seatFitJudges_59 : decode cX9_seatFitJudges 59 = .ok (.iload_n 3, 1) := by decide +kernel
theorem dX9_seatFitJudges_60 : decode cX9_seatFitJudges 60 = .ok (.iastore, 1) := by decide +kernel
theorem dX9_seatFitJudges_61 : decode cX9_seatFitJudges 61 = .ok (.iinc 2 1, 3) := by decide +kernel
theorem dX9_seatFitJudges_64 : decode cX9_seatFitJudges 64 = .ok (.iinc 3 1, 3) := by decide +kernel
theorem dX9_seatFitJudges_67 : decode cX9_seatFitJudges 67 = .ok (.goto (-63), 3) := by decide +kernel
theorem dX9_seatFitJudges_70 : decode cX9_seatFitJudges 70 = .ok (.iload_n 2, 1) := by decide +kernel
theorem dX9_seatFitJudges_71 : decode cX9_seatFitJudges 71 = .ok (.ireturn, 1) := by decide +kernel
theorem dX9_numberNow_0 : decode cX9_numberNow 0 = .ok (.aload_n 0, 1) := by decide +kernel
theorem dX9_numberNow_1 : decode cX9_numberNow 1 = .ok (.getfield 61, 3) := by decide +kernel
theorem dX9_numberNow_4 : decode cX9_numberNow 4 = .ok (.aload_n 0, 1) := by decide +kernel
theorem dX9_numberNow_5 : decode cX9_numberNow 5 = .ok (.getfield 79, 3) := by decide +kernel
theorem dX9_numberNow_8 : decode cX9_numberNow 8 = .ok (.aload_n 0, 1) := by decide +kernel
theorem dX9_numberNow_9 : decode cX9_numberNow 9 = .ok (.getfield 79, 3) := by decide +kernel
theorem dX9_numberNow_12 : decode cX9_numberNow 12 = .ok (.invokevirtual 162, 3) := by decide +kernel
theorem dX9_numberNow_15 : decode cX9_numberNow 15 = .ok (.istore_n 1, 1) := by decide +kernel
theorem dX9_numberNow_16 : decode cX9_numberNow 16 = .ok (.iload_n 1, 1) := by decide +kernel
theorem dX9_numberNow_17 : decode cX9_numberNow 17 = .ok (.iconst (-1), 1) := by decide +kernel
theorem dX9_numberNow_18 : decode cX9_numberNow 18 = .ok (.if_icmp .ne 7, 3) := by decide +kernel
theorem dX9_numberNow_21 : decode cX9_numberNow 21 = .ok (.iconst 3, 1) := by decide +kernel
theorem dX9_numberNow_22 : decode cX9_numberNow 22 = .ok (.goto 9, 3) := by decide +kernel
theorem dX9_numberNow_25 : decode cX9_numberNow 25 = .ok (.aload_n 0, 1) := by decide +kernel
theorem dX9_numberNow_26 : decode cX9_numberNow 26 = .ok (.getfield 65, 3) := by decide +kernel
theorem dX9_numberNow_29 : decode cX9_numberNow 29 = .ok (.iload_n 1, 1) := by decide +kernel
theorem dX9_numberNow_30 : decode cX9_numberNow 30 = .ok (.iaload, 1) := by decide +kernel
theorem dX9_numberNow_31 : decode cX9_numberNow 31 = .ok (.ireturn, 1) := by decide +kernel
theorem dX10_init_0 : decode cX10_init 0 = .ok (.aload_n 0, 1) := by decide +kernel
theorem dX10_init_1 : decode cX10_init 1 = .ok (.invokespecial 1, 3) := by decide +kernel
theorem dX10_init_4 : decode cX10_init 4 = .ok (.aload_n 0, 1) := by decide +kernel
theorem dX10_init_5 : decode cX10_init 5 = .ok (.bipush 30, 2) := by decide +kernel
theorem dX10_init_7 : decode cX10_init 7 = .ok (.newarray .int, 2) := by decide +kernel
theorem dX10_init_9 : decode cX10_init 9 = .ok (.putfield 9, 3) := by decide +kernel
theorem dX10_init_12 : decode cX10_init 12 = .ok (.aload_n 0, 1) := by decide +kernel
theorem dX10_init_13 : decode cX10_init 13 = .ok (.bipush 30, 2) := by decide +kernel
theorem dX10_init_15 : decode cX10_init 15 = .ok (.newarray .int, 2) := by decide +kernel
theorem dX10_init_17 : decode cX10_init 17 = .ok (.putfield 13, 3) := by decide +kernel
theorem dX10_init_20 : decode cX10_init 20 = .ok (.aload_n 0, 1) := by decide +kernel
theorem dX10_init_21 : decode cX10_init 21 = .ok (.bipush 30, 2) := by decide +kernel
theorem dX10_init_23 : decode cX10_init 23 = .ok (.newarray .int, 2) := by decide +kernel
theorem dX10_init_25 : decode cX10_init 25 = .ok (.putfield 16, 3) := by decide +kernel
theorem dX10_init_28 : decode cX10_init 28 = .ok (.aload_n 0, 1) := by decide +kernel
theorem dX10_init_29 : decode cX10_init 29 = .ok (.bipush 30, 2) := by decide +kernel
theorem dX10_init_31 : decode cX10_init 31 = .ok (.newarray .int, 2) := by decide +kernel
theorem dX10_init_33 : decode cX10_init 33 = .ok (.putfield 19, 3) := by decide +kernel
theorem dX10_init_36 : decode cX10_init 36 = .ok (.aload_n 0, 1) := by decide +kernel
theorem dX10_init_37 : decode cX10_init 37 = .ok (.bipush 30, 2) := by decide +kernel
theorem dX10_init_39 : decode cX10_init 39 = .ok (.newarray .int, 2) := by decide +kernel
theorem dX10_init_41 : decode cX10_init 41 = .ok (.putfield 22, 3) := by decide +kernel
theorem dX10_init_44 : decode cX10_init 44 = .ok (.aload_n 0, 1) := by decide +kernel
theorem dX10_init_45 : decode cX10_init 45 = .ok (.bipush 30, 2) := by decide +kernel
theorem dX10_init_47 : decode cX10_init 47 = .ok (.newarray .int, 2) := by decide +kernel
theorem dX10_init_49 : decode cX10_init 49 = .ok (.putfield 25, 3) := by decide +kernel
theorem dX10_init_52 : decode cX10_init 52 = .ok (.aload_n 0, 1) := by decide +kernel
theorem dX10_init_53 : decode cX10_init 53 = .ok (.bipush 100, 2) := by decide +kernel
theorem dX10_init_55 : decode cX10_init 55 = .ok (.newarray .int, 2) := by decide +kernel
theorem dX10_init_57 : decode cX10_init 57 = .ok (.putfield 28, 3) := by decide +kernel
theorem dX10_init_60 : decode cX10_init 60 = .ok (.aload_n 0, 1) := by decide +kernel
theorem dX10_init_61 : decode cX10_init 61 = .ok (.bipush 100, 2) := by decide +kernel
theorem dX10_init_63 : decode cX10_init 63 = .ok (.newarray .int, 2) := by decide +kernel
theorem dX10_init_65 : decode cX10_init 65 = .ok (.putfield 31, 3) := by decide +kernel
theorem dX10_init_68 : decode cX10_init 68 = .ok (.aload_n 0, 1) := by decide +kernel
theorem dX10_init_69 : decode cX10_init 69 = .ok (.bipush 100, 2) := by decide +kernel
theorem dX10_init_71 : decode cX10_init 71 = .ok (.newarray .int, 2) := by decide +kernel
theorem dX10_init_73 : decode cX10_init 73 = .ok (.putfield 34, 3) := by decide +kernel
theorem dX10_init_76 : decode cX10_init 76 = .ok (.aload_n 0, 1) := by decide +kernel
theorem dX10_init_77 : decode cX10_init 77 = .ok (.bipush 100, 2) := by decide +kernel
theorem dX10_init_79 : decode cX10_init 79 = .ok (.newarray .int, 2) := by decide +kernel
theorem dX10_init_81 : decode cX10_init 81 = .ok (.putfield 37, 3) := by decide +kernel
theorem dX10_init_84 : decode cX10_init 84 = .ok (.aload_n 0, 1) := by decide +kernel
theorem dX10_init_85 : decode cX10_init 85 = .ok (.bipush 100, 2) := by decide +kernel
theorem dX10_init_87 : decode cX10_init 87 = .ok (.newarray .int, 2) := by decide +kernel
theorem dX10_init_89 : decode cX10_init 89 = .ok (.putfield 40, 3) := by decide +kernel
theorem dX10_init_92 : decode cX10_init 92 = .ok (.aload_n 0, 1) := by decide +kernel
theorem dX10_init_93 : decode cX10_init 93 = .ok (.bipush 100, 2) := by decide +kernel
theorem dX10_init_95 : decode cX10_init 95 = .ok (.newarray .int, 2) := by decide +kernel
theorem dX10_init_97 : decode cX10_init 97 = .ok (.putfield 43, 3) := by decide +kernel
theorem dX10_init_100 : decode cX10_init 100 = .ok (.aload_n 0, 1) := by decide +kernel
theorem dX10_init_101 : decode cX10_init 101 = .ok (.bipush 100, 2) := by decide +kernel
theorem dX10_init_103 : decode cX10_init 103 = .ok (.newarray .int, 2) := by decide +kernel
theorem dX10_init_105 : decode cX10_init 105 = .ok (.putfield 46, 3) := by decide +kernel
theorem dX10_init_108 : decode cX10_init 108 = .ok (.aload_n 0, 1) := by decide +kernel
theorem dX10_init_109 : decode cX10_init 109 = .ok (.bipush 100, 2) := by decide +kernel
theorem dX10_init_111 : decode cX10_init 111 = .ok (.newarray .int, 2) := by decide +kernel
theorem dX10_init_113 : decode cX10_init 113 = .ok (.putfield 49, 3) := by decide +kernel
theorem dX10_init_116 : decode cX10_init 116 = .ok (.aload_n 0, 1) := by decide +kernel
theorem dX10_init_117 : decode cX10_init 117 = .ok (.bipush 100, 2) := by decide +kernel
theorem dX10_init_119 : decode cX10_init 119 = .ok (.newarray .int, 2) := by decide +kernel
theorem dX10_init_121 : decode cX10_init 121 = .ok (.putfield 52, 3) := by decide +kernel
theorem dX10_init_124 : decode cX10_init 124 = .ok (.aload_n 0, 1) := by decide +kernel
theorem dX10_init_125 : decode cX10_init 125 = .ok (.bipush 100, 2) := by decide +kernel
theorem dX10_init_127 : decode cX10_init 127 = .ok (.newarray .int, 2) := by decide +kernel
theorem dX10_init_129 : decode cX10_init 129 = .ok (.putfield 55, 3) := by decide +kernel
theorem dX10_init_132 : decode cX10_init 132 = .ok (.aload_n 0, 1) := by decide +kernel
theorem dX10_init_133 : decode cX10_init 133 = .ok (.bipush 120, 2) := by decide +kernel
theorem dX10_init_135 : decode cX10_init 135 = .ok (.newarray .byte, 2) := by decide +kernel
theorem dX10_init_137 : decode cX10_init 137 = .ok (.putfield 58, 3) := by decide +kernel
theorem dX10_init_140 : decode cX10_init 140 = .ok (.aload_n 0, 1) := by decide +kernel
theorem dX10_init_141 : decode cX10_init 141 = .ok (.sipush 3600, 3) := by decide +kernel
theorem dX10_init_144 : decode cX10_init 144 = .ok (.newarray .byte, 2) := by decide +kernel
theorem dX10_init_146 : decode cX10_init 146 = .ok (.putfield 62, 3) := by decide +kernel
theorem dX10_init_149 : decode cX10_init 149 = .ok (.aload_n 0, 1) := by decide +kernel
theorem dX10_init_150 : decode cX10_init 150 = .ok (.bipush 30, 2) := by decide +kernel
theorem dX10_init_152 : decode cX10_init 152 = .ok (.newarray .int, 2) := by decide +kernel
theorem dX10_init_154 : decode cX10_init 154 = .ok (.putfield 65, 3) := by decide +kernel
theorem dX10_init_157 : decode cX10_init 157 = .ok (.aload_n 0, 1) := by decide +kernel
theorem dX10_init_158 : decode cX10_init 158 = .ok (.bipush 30, 2) := by decide +kernel
theorem dX10_init_160 : decode cX10_init 160 = .ok (.newarray .int, 2) := by decide +kernel
theorem dX10_init_162 : decode cX10_init 162 = .ok (.putfield 68, 3) := by decide +kernel
theorem dX10_init_165 : decode cX10_init 165 = .ok (.aload_n 0, 1) := by decide +kernel
theorem dX10_init_166 : decode cX10_init 166 = .ok (.bipush 30, 2) := by decide +kernel
theorem dX10_init_168 : decode cX10_init 168 = .ok (.newarray .int, 2) := by decide +kernel
theorem dX10_init_170 : decode cX10_init 170 = .ok (.putfield 71, 3) := by decide +kernel
theorem dX10_init_173 : decode cX10_init 173 = .ok (.aload_n 0, 1) := by decide +kernel
theorem dX10_init_174 : decode cX10_init 174 = .ok (.bipush 40, 2) := by decide +kernel
theorem dX10_init_176 : decode cX10_init 176 = .ok (.newarray .int, 2) := by decide +kernel
theorem dX10_init_178 : decode cX10_init 178 = .ok (.putfield 74, 3) := by decide +kernel
theorem dX10_init_181 : decode cX10_init 181 = .ok (.aload_n 0, 1) := by decide +kernel
theorem dX10_init_182 : decode cX10_init 182 = .ok (.bipush 40, 2) := by decide +kernel
theorem dX10_init_184 : decode cX10_init 184 = .ok (.newarray .int, 2) := by decide +kernel
theorem dX10_init_186 : decode cX10_init 186 = .ok (.putfield 77, 3) := by decide +kernel
theorem dX10_init_189 : decode cX10_init 189 = .ok (.aload_n 0, 1) := by decide +kernel
theorem dX10_init_190 : decode cX10_init 190 = .ok (.bipush 40, 2) := by decide +kernel
theorem dX10_init_192 : decode cX10_init 192 = .ok (.newarray .int, 2) := by decide +kernel
theorem dX10_init_194 : decode cX10_init 194 = .ok (.putfield 80, 3) := by decide +kernel
theorem dX10_init_197 : decode cX10_init 197 = .ok (.aload_n 0, 1) := by decide +kernel
theorem dX10_init_198 : decode cX10_init 198 = .ok (.bipush 40, 2) := by decide +kernel
theorem dX10_init_200 : decode cX10_init 200 = .ok (.newarray .int, 2) := by decide +kernel
theorem dX10_init_202 : decode cX10_init 202 = .ok (.putfield 83, 3) := by decide +kernel
theorem dX10_init_205 : decode cX10_init 205 = .ok (.aload_n 0, 1) := by decide +kernel
theorem dX10_init_206 : decode cX10_init 206 = .ok (.bipush 120, 2) := by decide +kernel
theorem dX10_init_208 : decode cX10_init 208 = .ok (.newarray .int, 2) := by decide +kernel
theorem dX10_init_210 : decode cX10_init 210 = .ok (.putfield 86, 3) := by decide +kernel
theorem dX10_init_213 : decode cX10_init 213 = .ok (.aload_n 0, 1) := by decide +kernel
theorem dX10_init_214 : decode cX10_init 214 = .ok (.sipush 480, 3) := by decide +kernel
theorem dX10_init_217 : decode cX10_init 217 = .ok (.newarray .int, 2) := by decide +kernel
theorem dX10_init_219 : decode cX10_init 219 = .ok (.putfield 89, 3) := by decide +kernel
theorem dX10_init_222 : decode cX10_init 222 = .ok (.aload_n 0, 1) := by decide +kernel
theorem dX10_init_223 : decode cX10_init 223 = .ok (.bipush 30, 2) := by decide +kernel
theorem dX10_init_225 : decode cX10_init 225 = .ok (.newarray .int, 2) := by decide +kernel
theorem dX10_init_227 : decode cX10_init 227 = .ok (.putfield 92, 3) := by decide +kernel
theorem dX10_init_230 : decode cX10_init 230 = .ok (.aload_n 0, 1) := by decide +kernel
theorem dX10_init_231 : decode cX10_init 231 = .ok (.bipush 30, 2) := by decide +kernel
theorem dX10_init_233 : decode cX10_init 233 = .ok (.newarray .int, 2) := by decide +kernel
theorem dX10_init_235 : decode cX10_init 235 = .ok (.putfield 95, 3) := by decide +kernel
theorem dX10_init_238 : decode cX10_init 238 = .ok (.aload_n 0, 1) := by decide +kernel
theorem dX10_init_239 : decode cX10_init 239 = .ok (.bipush 30, 2) := by decide +kernel
theorem dX10_init_241 : decode cX10_init 241 = .ok (.newarray .int, 2) := by decide +kernel
theorem dX10_init_243 : decode cX10_init 243 = .ok (.putfield 98, 3) := by decide +kernel
theorem dX10_init_246 : decode cX10_init 246 = .ok (.aload_n 0, 1) := by decide +kernel
theorem dX10_init_247 : decode cX10_init 247 = .ok (.sipush 20001, 3) := by decide +kernel
theorem dX10_init_250 : decode cX10_init 250 = .ok (.newarray .byte, 2) := by decide +kernel
theorem dX10_init_252 : decode cX10_init 252 = .ok (.putfield 101, 3) := by decide +kernel
theorem dX10_init_255 : decode cX10_init 255 = .ok (.aload_n 0, 1) := by decide +kernel
theorem dX10_init_256 : decode cX10_init 256 = .ok (.sipush 20001, 3) := by decide +kernel
theorem dX10_init_259 : decode cX10_init 259 = .ok (.newarray .int, 2) := by decide +kernel
theorem dX10_init_261 : decode cX10_init 261 = .ok (.putfield 104, 3) := by decide +kernel
theorem dX10_init_264 : decode cX10_init 264 = .ok (.aload_n 0, 1) := by decide +kernel
theorem dX10_init_265 : decode cX10_init 265 = .ok (.sipush 20001, 3) := by decide +kernel
theorem dX10_init_268 : decode cX10_init 268 = .ok (.newarray .boolean, 2) := by decide +kernel
theorem dX10_init_270 : decode cX10_init 270 = .ok (.putfield 107, 3) := by decide +kernel
theorem dX10_init_273 : decode cX10_init 273 = .ok (.aload_n 0, 1) := by decide +kernel
theorem dX10_init_274 : decode cX10_init 274 = .ok (.bipush 8, 2) := by decide +kernel
theorem dX10_init_276 : decode cX10_init 276 = .ok (.newarray .int, 2) := by decide +kernel
theorem dX10_init_278 : decode cX10_init 278 = .ok (.putfield 111, 3) := by decide +kernel
theorem dX10_init_281 : decode cX10_init 281 = .ok (.aload_n 0, 1) := by decide +kernel
theorem dX10_init_282 : decode cX10_init 282 = .ok (.aload_n 0, 1) := by decide +kernel
theorem dX10_init_283 : decode cX10_init 283 = .ok (.getfield 58, 3) := by decide +kernel
theorem dX10_init_286 : decode cX10_init 286 = .ok (.putfield 114, 3) := by decide +kernel
theorem dX10_init_289 : decode cX10_init 289 = .ok (.return_, 1) := by decide +kernel
theorem dX10_thrown_0 : decode cX10_thrown 0 = .ok (.aload_n 0, 1) := by decide +kernel
theorem dX10_thrown_1 : decode cX10_thrown 1 = .ok (.getfield 117, 3) := by decide +kernel
theorem dX10_thrown_4 : decode cX10_thrown 4 = .ok (.ireturn, 1) := by decide +kernel
theorem dX10_isIn_0 : decode cX10_isIn 0 = .ok (.iload_n 0, 1) := by decide +kernel
theorem dX10_isIn_1 : decode cX10_isIn 1 = .ok (.iload_n 1, 1) := by decide +kernel
theorem dX10_isIn_2 : decode cX10_isIn 2 = .ok (.if_icmp .lt 12, 3) := by decide +kernel
theorem dX10_isIn_5 : decode cX10_isIn 5 = .ok (.iload_n 0, 1) := by decide +kernel
theorem dX10_isIn_6 : decode cX10_isIn 6 = .ok (.iload_n 2, 1) := by decide +kernel
theorem dX10_isIn_7 : decode cX10_isIn 7 = .ok (.if_icmp .gt 7, 3) := by decide +kernel
theorem dX10_isIn_10 : decode cX10_isIn 10 = .ok (.iconst 1, 1) := by decide +kernel
theorem dX10_isIn_11 : decode cX10_isIn 11 = .ok (.goto 4, 3) := by decide +kernel
theorem dX10_isIn_14 : decode cX10_isIn 14 = .ok (.iconst 0, 1) := by decide +kernel
theorem dX10_isIn_15 : decode cX10_isIn 15 = .ok (.ireturn, 1) := by decide +kernel
theorem dX10_isPerson_0 : decode cX10_isPerson 0 = .ok (.iload_n 1, 1) := by decide +kernel
theorem dX10_isPerson_1 : decode cX10_isPerson 1 = .ok (.ifCond .lt 15, 3) := by decide +kernel
theorem dX10_isPerson_4 : decode cX10_isPerson 4 = .ok (.iload_n 1, 1) := by decide +kernel
theorem dX10_isPerson_5 : decode cX10_isPerson 5 = .ok (.aload_n 0, 1) := by decide +kernel
theorem dX10_isPerson_6 : decode cX10_isPerson 6 = .ok (.getfield 121, 3) := by decide +kernel
theorem dX10_isPerson_9 : decode cX10_isPerson 9 = .ok (.if_icmp .ge 7, 3) := by decide +kernel
theorem dX10_isPerson_12 : decode cX10_isPerson 12 = .ok (.iconst 1, 1) := by decide +kernel
theorem dX10_isPerson_13 : decode cX10_isPerson 13 = .ok (.goto 4, 3) := by decide +kernel
theorem dX10_isPerson_16 : decode cX10_isPerson 16 = .ok (.iconst 0, 1) := by decide +kernel
theorem dX10_isPerson_17 : decode cX10_isPerson 17 = .ok (.ireturn, 1) := by decide +kernel
theorem dX10_isAlive_0 : decode cX10_isAlive 0 = .ok (.aload_n 0, 1) := by decide +kernel
theorem dX10_isAlive_1 : decode cX10_isAlive 1 = .ok (.iload_n 1, 1) := by decide +kernel
theorem dX10_isAlive_2 : decode cX10_isAlive 2 = .ok (.invokevirtual 124, 3) := by decide +kernel
theorem dX10_isAlive_5 : decode cX10_isAlive 5 = .ok (.ifCond .eq 17, 3) := by decide +kernel
theorem dX10_isAlive_8 : decode cX10_isAlive 8 = .ok (.aload_n 0, 1) := by decide +kernel
theorem dX10_isAlive_9 : decode cX10_isAlive 9 = .ok (.getfield 19, 3) := by decide +kernel
theorem dX10_isAlive_12 : decode cX10_isAlive 12 = .ok (.iload_n 1, 1) := by decide +kernel
theorem dX10_isAlive_13 : decode cX10_isAlive 13 = .ok (.iaload, 1) := by decide +kernel
theorem dX10_isAlive_14 : decode cX10_isAlive 14 = .ok (.iconst (-1), 1) := by decide +kernel
theorem dX10_isAlive_15 : decode cX10_isAlive 15 = .ok (.if_icmp .ne 7, 3) := by decide +kernel
theorem dX10_isAlive_18 : decode cX10_isAlive 18 = .ok (.iconst 1, 1) := by decide +kernel
theorem dX10_isAlive_19 : decode cX10_isAlive 19 = .ok (.goto 4, 3) := by decide +kernel
theorem dX10_isAlive_22 : decode cX10_isAlive 22 = .ok (.iconst 0, 1) := by decide +kernel
theorem dX10_isAlive_23 : decode cX10_isAlive 23 = .ok (.ireturn, 1) := by decide +kernel
theorem dX10_isMaster_0 : decode cX10_isMaster 0 = .ok (.aload_n 0, 1) := by decide +kernel
theorem dX10_isMaster_1 : decode cX10_isMaster 1 = .ok (.iload_n 1, 1) := by decide +kernel
theorem dX10_isMaster_2 : decode cX10_isMaster 2 = .ok (.invokevirtual 128, 3) := by decide +kernel
theorem dX10_isMaster_5 : decode cX10_isMaster 5 = .ok (.ifCond .eq 17, 3) := by decide +kernel
theorem dX10_isMaster_8 : decode cX10_isMaster 8 = .ok (.aload_n 0, 1) := by decide +kernel
theorem dX10_isMaster_9 : decode cX10_isMaster 9 = .ok (.getfield 16, 3) := by decide +kernel
theorem dX10_isMaster_12 : decode cX10_isMaster 12 = .ok (.iload_n 1, 1) := by decide +kernel
theorem dX10_isMaster_13 : decode cX10_isMaster 13 = .ok (.iaload, 1) := by decide +kernel
theorem dX10_isMaster_14 : decode cX10_isMaster 14 = .ok (.iconst (-1), 1) := by decide +kernel
theorem dX10_isMaster_15 : decode cX10_isMaster 15 = .ok (.if_icmp .eq 7, 3) := by decide +kernel
theorem dX10_isMaster_18 : decode cX10_isMaster 18 = .ok (.iconst 1, 1) := by decide +kernel
theorem dX10_isMaster_19 : decode cX10_isMaster 19 = .ok (.goto 4, 3) := by decide +kernel
theorem dX10_isMaster_22 : decode cX10_isMaster 22 = .ok (.iconst 0, 1) := by decide +kernel
theorem dX10_isMaster_23 : decode cX10_isMaster 23 = .ok (.ireturn, 1) := by decide +kernel
theorem dX10_person_0 : decode cX10_person 0 = .ok (.aload_n 0, 1) := by decide +kernel
theorem dX10_person_1 : decode cX10_person 1 = .ok (.iconst 0, 1) := by decide +kernel
theorem dX10_person_2 : decode cX10_person 2 = .ok (.putfield 117, 3) := by decide +kernel
theorem dX10_person_5 : decode cX10_person 5 = .ok (.aload_n 0, 1) := by decide +kernel
theorem dX10_person_6 : decode cX10_person 6 = .ok (.getfield 121, 3) := by decide +kernel
theorem dX10_person_9 : decode cX10_person 9 = .ok (.bipush 30, 2) := by decide +kernel
theorem dX10_person_11 : decode cX10_person 11 = .ok (.if_icmp .eq 29, 3) := by decide +kernel
theorem dX10_person_14 : decode cX10_person 14 = .ok (.iload_n 1, 1) := by decide +kernel
theorem dX10_person_15 : decode cX10_person 15 = .ok (.iconst (-1), 1) := by decide +kernel
theorem dX10_person_16 : decode cX10_person 16 = .ok (.if_icmp .eq 11, 3) := by decide +kernel
theorem dX10_person_19 : decode cX10_person 19 = .ok (.aload_n 0, 1) := by decide +kernel
theorem dX10_person_20 : decode cX10_person 20 = .ok (.iload_n 1, 1) := by decide +kernel
theorem dX10_person_21 : decode cX10_person 21 = .ok (.invokevirtual 124, 3) := by decide +kernel
theorem dX10_person_24 : decode cX10_person 24 = .ok (.ifCond .eq 16, 3) := by decide +kernel
theorem dX10_person_27 : decode cX10_person 27 = .ok (.iload_n 2, 1) := by decide +kernel
theorem dX10_person_28 : decode cX10_person 28 = .ok (.iconst (-1), 1) := by decide +kernel
theorem dX10_person_29 : decode cX10_person 29 = .ok (.if_icmp .eq 13, 3) := by decide +kernel
theorem dX10_person_32 : decode cX10_person 32 = .ok (.aload_n 0, 1) := by decide +kernel
theorem dX10_person_33 : decode cX10_person 33 = .ok (.iload_n 2, 1) := by decide +kernel
theorem dX10_person_34 : decode cX10_person 34 = .ok (.invokevirtual 124, 3) := by decide +kernel
theorem dX10_person_37 : decode cX10_person 37 = .ok (.ifCond .ne 5, 3) := by decide +kernel
theorem dX10_person_40 : decode cX10_person 40 = .ok (.iconst (-1), 1) := by decide +kernel
theorem dX10_person_41 : decode cX10_person 41 = .ok (.ireturn, 1) := by decide +kernel
theorem dX10_person_42 : decode cX10_person 42 = .ok (.aload_n 0, 1) := by decide +kernel
theorem dX10_person_43 : decode cX10_person 43 = .ok (.getfield 9, 3) := by decide +kernel
theorem dX10_person_46 : decode cX10_person 46 = .ok (.aload_n 0, 1) := by decide +kernel
theorem dX10_person_47 : decode cX10_person 47 = .ok (.getfield 121, 3) := by decide +kernel
theorem dX10_person_50 : decode cX10_person 50 = .ok (.iload_n 1, 1) := by decide +kernel
theorem dX10_person_51 : decode cX10_person 51 = .ok (.iastore, 1) := by decide +kernel
theorem dX10_person_52 : decode cX10_person 52 = .ok (.aload_n 0, 1) := by decide +kernel
theorem dX10_person_53 : decode cX10_person 53 = .ok (.getfield 13, 3) := by decide +kernel
theorem dX10_person_56 : decode cX10_person 56 = .ok (.aload_n 0, 1) := by decide +kernel
theorem dX10_person_57 : decode cX10_person 57 = .ok (.getfield 121, 3) := by decide +kernel
theorem dX10_person_60 : decode cX10_person 60 = .ok (.iload_n 2, 1) := by decide +kernel
theorem dX10_person_61 : decode cX10_person 61 = .ok (.iastore, 1) := by decide +kernel
theorem dX10_person_62 : decode cX10_person 62 = .ok (.aload_n 0, 1) := by decide +kernel
theorem dX10_person_63 : decode cX10_person 63 = .ok (.getfield 16, 3) := by decide +kernel
theorem dX10_person_66 : decode cX10_person 66 = .ok (.aload_n 0, 1) := by decide +kernel
theorem dX10_person_67 : decode cX10_person 67 = .ok (.getfield 121, 3) := by decide +kernel
theorem dX10_person_70 : decode cX10_person 70 = .ok (.iconst (-1), 1) := by decide +kernel
theorem dX10_person_71 : decode cX10_person 71 = .ok (.iastore, 1) := by decide +kernel
theorem dX10_person_72 : decode cX10_person 72 = .ok (.aload_n 0, 1) := by decide +kernel
theorem dX10_person_73 : decode cX10_person 73 = .ok (.getfield 19, 3) := by decide +kernel
theorem dX10_person_76 : decode cX10_person 76 = .ok (.aload_n 0, 1) := by decide +kernel
theorem dX10_person_77 : decode cX10_person 77 = .ok (.getfield 121, 3) := by decide +kernel
theorem dX10_person_80 : decode cX10_person 80 = .ok (.iconst (-1), 1) := by decide +kernel
theorem dX10_person_81 : decode cX10_person 81 = .ok (.iastore, 1) := by decide +kernel
theorem dX10_person_82 : decode cX10_person 82 = .ok (.aload_n 0, 1) := by decide +kernel
theorem dX10_person_83 : decode cX10_person 83 = .ok (.getfield 22, 3) := by decide +kernel
theorem dX10_person_86 : decode cX10_person 86 = .ok (.aload_n 0, 1) := by decide +kernel
theorem dX10_person_87 : decode cX10_person 87 = .ok (.getfield 121, 3) := by decide +kernel
theorem dX10_person_90 : decode cX10_person 90 = .ok (.iconst (-1), 1) := by decide +kernel
theorem dX10_person_91 : decode cX10_person 91 = .ok (.iastore, 1) := by decide +kernel
theorem dX10_person_92 : decode cX10_person 92 = .ok (.aload_n 0, 1) := by decide +kernel
theorem dX10_person_93 : decode cX10_person 93 = .ok (.getfield 25, 3) := by decide +kernel
theorem dX10_person_96 : decode cX10_person 96 = .ok (.aload_n 0, 1) := by decide +kernel
theorem dX10_person_97 : decode cX10_person 97 = .ok (.getfield 121, 3) := by decide +kernel
theorem dX10_person_100 : decode cX10_person 100 = .ok (.iconst (-1), 1) := by decide +kernel
theorem dX10_person_101 : decode cX10_person 101 = .ok (.iastore, 1) := by decide +kernel
theorem dX10_person_102 : decode cX10_person 102 = .ok (.aload_n 0, 1) := by decide +kernel
theorem dX10_person_103 : decode cX10_person 103 = .ok (.dup, 1) := by decide +kernel
theorem dX10_person_104 : decode cX10_person 104 = .ok (.getfield 121, 3) := by decide +kernel
theorem dX10_person_107 : decode cX10_person 107 = .ok (.iconst 1, 1) := by decide +kernel
theorem dX10_person_108 : decode cX10_person 108 = .ok (.iadd, 1) := by decide +kernel
theorem dX10_person_109 : decode cX10_person 109 = .ok (.putfield 121, 3) := by decide +kernel
theorem dX10_person_112 : decode cX10_person 112 = .ok (.aload_n 0, 1) := by decide +kernel
theorem dX10_person_113 : decode cX10_person 113 = .ok (.getfield 121, 3) := by decide +kernel
theorem dX10_person_116 : decode cX10_person 116 = .ok (.iconst 1, 1) := by decide +kernel
theorem dX10_person_117 : decode cX10_person 117 = .ok (.isub, 1) := by decide +kernel
theorem dX10_person_118 : decode cX10_person 118 = .ok (.ireturn, 1) := by decide +kernel
theorem dX10_master_0 : decode cX10_master 0 = .ok (.aload_n 0, 1) := by decide +kernel
theorem dX10_master_1 : decode cX10_master 1 = .ok (.iconst 0, 1) := by decide +kernel
theorem dX10_master_2 : decode cX10_master 2 = .ok (.putfield 117, 3) := by decide +kernel
theorem dX10_master_5 : decode cX10_master 5 = .ok (.aload_n 0, 1) := by decide +kernel
theorem dX10_master_6 : decode cX10_master 6 = .ok (.iload_n 1, 1) := by decide +kernel
theorem dX10_master_7 : decode cX10_master 7 = .ok (.invokevirtual 128, 3) := by decide +kernel
theorem dX10_master_10 : decode cX10_master 10 = .ok (.ifCond .eq 11, 3) := by decide +kernel
theorem dX10_master_13 : decode cX10_master 13 = .ok (.aload_n 0, 1) := by decide +kernel
theorem dX10_master_14 : decode cX10_master 14 = .ok (.iload_n 1, 1) := by decide +kernel
theorem dX10_master_15 : decode cX10_master 15 = .ok (.invokevirtual 131, 3) := by decide +kernel
theorem dX10_master_18 : decode cX10_master 18 = .ok (.ifCond .eq 5, 3) := by decide +kernel
theorem dX10_master_21 : decode cX10_master 21 = .ok (.iconst 0, 1) := by decide +kernel
theorem dX10_master_22 : decode cX10_master 22 = .ok (.ireturn, 1) := by decide +kernel
theorem dX10_master_23 : decode cX10_master 23 = .ok (.aload_n 0, 1) := by decide +kernel
theorem dX10_master_24 : decode cX10_master 24 = .ok (.getfield 16, 3) := by decide +kernel
theorem dX10_master_27 : decode cX10_master 27 = .ok (.iload_n 1, 1) := by decide +kernel
theorem dX10_master_28 : decode cX10_master 28 = .ok (.aload_n 0, 1) := by decide +kernel
theorem dX10_master_29 : decode cX10_master 29 = .ok (.getfield 134, 3) := by decide +kernel
theorem dX10_master_32 : decode cX10_master 32 = .ok (.iastore, 1) := by decide +kernel
theorem dX10_master_33 : decode cX10_master 33 = .ok (.iconst 1, 1) := by decide +kernel
theorem dX10_master_34 : decode cX10_master 34 = .ok (.ireturn, 1) := by decide +kernel
theorem dX10_death_0 : decode cX10_death 0 = .ok (.aload_n 0, 1) := by decide +kernel
theorem dX10_death_1 : decode cX10_death 1 = .ok (.iconst 0, 1) := by decide +kernel
theorem dX10_death_2 : decode cX10_death 2 = .ok (.putfield 117, 3) := by decide +kernel
theorem dX10_death_5 : decode cX10_death 5 = .ok (.aload_n 0, 1) := by decide +kernel
theorem dX10_death_6 : decode cX10_death 6 = .ok (.iload_n 1, 1) := by decide +kernel
theorem dX10_death_7 : decode cX10_death 7 = .ok (.invokevirtual 131, 3) := by decide +kernel
theorem dX10_death_10 : decode cX10_death 10 = .ok (.ifCond .eq 21, 3) := by decide +kernel
theorem dX10_death_13 : decode cX10_death 13 = .ok (.iload_n 2, 1) := by decide +kernel
theorem dX10_death_14 : decode cX10_death 14 = .ok (.iconst (-1), 1) := by decide +kernel
theorem dX10_death_15 : decode cX10_death 15 = .ok (.if_icmp .eq 18, 3) := by decide +kernel
theorem dX10_death_18 : decode cX10_death 18 = .ok (.aload_n 0, 1) := by decide +kernel
theorem dX10_death_19 : decode cX10_death 19 = .ok (.iload_n 2, 1) := by decide +kernel
theorem dX10_death_20 : decode cX10_death 20 = .ok (.invokevirtual 131, 3) := by decide +kernel
theorem dX10_death_23 : decode cX10_death 23 = .ok (.ifCond .eq 8, 3) := by decide +kernel
theorem dX10_death_26 : decode cX10_death 26 = .ok (.iload_n 2, 1) := by decide +kernel
theorem dX10_death_27 : decode cX10_death 27 = .ok (.iload_n 1, 1) := by decide +kernel
theorem dX10_death_28 : decode cX10_death 28 = .ok (.if_icmp .ne 5, 3) := by decide +kernel
theorem dX10_death_31 : decode cX10_death 31 = .ok (.iconst 0, 1) := by decide +kernel
theorem dX10_death_32 : decode cX10_death 32 = .ok (.ireturn, 1) := by decide +kernel
theorem dX10_death_33 : decode cX10_death 33 = .ok (.aload_n 0, 1) := by decide +kernel
theorem dX10_death_34 : decode cX10_death 34 = .ok (.getfield 19, 3) := by decide +kernel
theorem dX10_death_37 : decode cX10_death 37 = .ok (.iload_n 1, 1) := by decide +kernel
theorem dX10_death_38 : decode cX10_death 38 = .ok (.aload_n 0, 1) := by decide +kernel
theorem dX10_death_39 : decode cX10_death 39 = .ok (.getfield 134, 3) := by decide +kernel
theorem dX10_death_42 : decode cX10_death 42 = .ok (.iastore, 1) := by decide +kernel
theorem dX10_death_43 : decode cX10_death 43 = .ok (.aload_n 0, 1) := by decide +kernel
theorem dX10_death_44 : decode cX10_death 44 = .ok (.getfield 22, 3) := by decide +kernel
theorem dX10_death_47 : decode cX10_death 47 = .ok (.iload_n 1, 1) := by decide +kernel
theorem dX10_death_48 : decode cX10_death 48 = .ok (.iconst (-1), 1) := by decide +kernel
theorem dX10_death_49 : decode cX10_death 49 = .ok (.iastore, 1) := by decide +kernel
theorem dX10_death_50 : decode cX10_death 50 = .ok (.iconst 0, 1) := by decide +kernel
theorem dX10_death_51 : decode cX10_death 51 = .ok (.istore_n 3, 1) := by decide +kernel
theorem dX10_death_52 : decode cX10_death 52 = .ok (.iload_n 3, 1) := by decide +kernel
theorem dX10_death_53 : decode cX10_death 53 = .ok (.aload_n 0, 1) := by decide +kernel
theorem dX10_death_54 : decode cX10_death 54 = .ok (.getfield 121, 3) := by decide +kernel
theorem dX10_death_57 : decode cX10_death 57 = .ok (.if_icmp .ge 35, 3) := by decide +kernel
theorem dX10_death_60 : decode cX10_death 60 = .ok (.aload_n 0, 1) := by decide +kernel
theorem dX10_death_61 : decode cX10_death 61 = .ok (.getfield 22, 3) := by decide +kernel
theorem dX10_death_64 : decode cX10_death 64 = .ok (.iload_n 3, 1) := by decide +kernel
theorem dX10_death_65 : decode cX10_death 65 = .ok (.iaload, 1) := by decide +kernel
theorem dX10_death_66 : decode cX10_death 66 = .ok (.iload_n 1, 1) := by decide +kernel
theorem dX10_death_67 : decode cX10_death 67 = .ok (.if_icmp .ne 19, 3) := by decide +kernel
theorem dX10_death_70 : decode cX10_death 70 = .ok (.aload_n 0, 1) := by decide +kernel
theorem dX10_death_71 : decode cX10_death 71 = .ok (.getfield 22, 3) := by decide +kernel
theorem dX10_death_74 : decode cX10_death 74 = .ok (.iload_n 3, 1) := by decide +kernel
theorem dX10_death_75 : decode cX10_death 75 = .ok (.iload_n 3, 1) := by decide +kernel
theorem dX10_death_76 : decode cX10_death 76 = .ok (.iload_n 2, 1) := by decide +kernel
theorem dX10_death_77 : decode cX10_death 77 = .ok (.if_icmp .ne 7, 3) := by decide +kernel
theorem dX10_death_80 : decode cX10_death 80 = .ok (.iconst (-1), 1) := by decide +kernel
theorem dX10_death_81 : decode cX10_death 81 = .ok (.goto 4, 3) := by decide +kernel
theorem dX10_death_84 : decode cX10_death 84 = .ok (.iload_n 2, 1) := by decide +kernel
theorem dX10_death_85 : decode cX10_death 85 = .ok (.iastore, 1) := by decide +kernel
theorem dX10_death_86 : decode cX10_death 86 = .ok (.iinc 3 1, 3) := by decide +kernel
theorem dX10_death_89 : decode cX10_death 89 = .ok (.goto (-37), 3) := by decide +kernel
theorem dX10_death_92 : decode cX10_death 92 = .ok (.iload_n 2, 1) := by decide +kernel
theorem dX10_death_93 : decode cX10_death 93 = .ok (.iconst (-1), 1) := by decide +kernel
theorem dX10_death_94 : decode cX10_death 94 = .ok (.if_icmp .eq 16, 3) := by decide +kernel
theorem dX10_death_97 : decode cX10_death 97 = .ok (.aload_n 0, 1) := by decide +kernel
theorem dX10_death_98 : decode cX10_death 98 = .ok (.getfield 25, 3) := by decide +kernel
theorem dX10_death_101 : decode cX10_death 101 = .ok (.iload_n 2, 1) := by decide +kernel
theorem dX10_death_102 : decode cX10_death 102 = .ok (.aload_n 0, 1) := by decide +kernel
theorem dX10_death_103 : decode cX10_death 103 = .ok (.getfield 134, 3) := by decide +kernel
theorem dX10_death_106 : decode cX10_death 106 = .ok (.bipush 100, 2) := by decide +kernel
theorem dX10_death_108 : decode cX10_death 108 = .ok (.iadd, 1) := by decide +kernel
theorem dX10_death_109 : decode cX10_death 109 = .ok (.iastore, 1) := by decide +kernel
theorem dX10_death_110 : decode cX10_death 110 = .ok (.iconst 1, 1) := by decide +kernel
theorem dX10_death_111 : decode cX10_death 111 = .ok (.ireturn, 1) := by decide +kernel
theorem dX10_days_0 : decode cX10_days 0 = .ok (.aload_n 0, 1) := by decide +kernel
theorem dX10_days_1 : decode cX10_days 1 = .ok (.iconst 0, 1) := by decide +kernel
theorem dX10_days_2 : decode cX10_days 2 = .ok (.putfield 117, 3) := by decide +kernel
theorem dX10_days_5 : decode cX10_days 5 = .ok (.iload_n 1, 1) := by decide +kernel
theorem dX10_days_6 : decode cX10_days 6 = .ok (.iconst 0, 1) := by decide +kernel
theorem dX10_days_7 : decode cX10_days 7 = .ok (.sipush 20000, 3) := by decide +kernel
theorem dX10_days_10 : decode cX10_days 10 = .ok (.invokestatic 137, 3) := by decide +kernel
theorem dX10_days_13 : decode cX10_days 13 = .ok (.ifCond .eq 15, 3) := by decide +kernel
theorem dX10_days_16 : decode cX10_days 16 = .ok (.aload_n 0, 1) := by decide +kernel
theorem dX10_days_17 : decode cX10_days 17 = .ok (.getfield 134, 3) := by decide +kernel
theorem dX10_days_20 : decode cX10_days 20 = .ok (.iload_n 1, 1) := by decide +kernel
theorem dX10_days_21 : decode cX10_days 21 = .ok (.iadd, 1) := by decide +kernel
theorem dX10_days_22 : decode cX10_days 22 = .ok (.sipush 20000, 3) := by decide +kernel
theorem dX10_days_25 : decode cX10_days 25 = .ok (.if_icmp .le 5, 3) := by decide +kernel
theorem dX10_days_28 : decode cX10_days 28 = .ok (.iconst (-1), 1) := by decide +kernel
theorem dX10_days_29 : decode cX10_days 29 = .ok (.ireturn, 1) := by decide +kernel
theorem dX10_days_30 : decode cX10_days 30 = .ok (.aload_n 0, 1) := by decide +kernel
theorem dX10_days_31 : decode cX10_days 31 = .ok (.dup, 1) := by decide +kernel
theorem dX10_days_32 : decode cX10_days 32 = .ok (.getfield 134, 3) := by decide +kernel
theorem dX10_days_35 : decode cX10_days 35 = .ok (.iload_n 1, 1) := by decide +kernel
theorem dX10_days_36 : decode cX10_days 36 = .ok (.iadd, 1) := by decide +kernel
theorem dX10_days_37 : decode cX10_days 37 = .ok (.putfield 134, 3) := by decide +kernel
theorem dX10_days_40 : decode cX10_days 40 = .ok (.aload_n 0, 1) := by decide +kernel
theorem dX10_days_41 : decode cX10_days 41 = .ok (.getfield 134, 3) := by decide +kernel
theorem dX10_days_44 : decode cX10_days 44 = .ok (.ireturn, 1) := by decide +kernel
theorem dX10_isParent_0 : decode cX10_isParent 0 = .ok (.aload_n 0, 1) := by decide +kernel
theorem dX10_isParent_1 : decode cX10_isParent 1 = .ok (.getfield 9, 3) := by decide +kernel
theorem dX10_isParent_4 : decode cX10_isParent 4 = .ok (.iload_n 2, 1) := by decide +kernel
theorem dX10_isParent_5 : decode cX10_isParent 5 = .ok (.iaload, 1) := by decide +kernel
theorem dX10_isParent_6 : decode cX10_isParent 6 = .ok (.iload_n 1, 1) := by decide +kernel
theorem dX10_isParent_7 : decode cX10_isParent 7 = .ok (.if_icmp .eq 13, 3) := by decide +kernel
theorem dX10_isParent_10 : decode cX10_isParent 10 = .ok (.aload_n 0, 1) := by decide +kernel
theorem dX10_isParent_11 : decode cX10_isParent 11 = .ok (.getfield 13, 3) := by decide +kernel
theorem dX10_isParent_14 : decode cX10_isParent 14 = .ok (.iload_n 2, 1) := by decide +kernel
theorem dX10_isParent_15 : decode cX10_isParent 15 = .ok (.iaload, 1) := by decide +kernel
theorem dX10_isParent_16 : decode cX10_isParent 16 = .ok (.iload_n 1, 1) := by decide +kernel
theorem dX10_isParent_17 : decode cX10_isParent 17 = .ok (.if_icmp .ne 7, 3) := by decide +kernel
theorem dX10_isParent_20 : decode cX10_isParent 20 = .ok (.iconst 1, 1) := by decide +kernel
theorem dX10_isParent_21 : decode cX10_isParent 21 = .ok (.goto 4, 3) := by decide +kernel
theorem dX10_isParent_24 : decode cX10_isParent 24 = .ok (.iconst 0, 1) := by decide +kernel
end
section
theorem dX10_isParent_25 : decode cX10_isParent 25 = .ok (.ireturn, 1) := by decide +kernel
theorem dX10_areKin_0 : decode cX10_areKin 0 = .ok (.iload_n 1, 1) := by decide +kernel
theorem dX10_areKin_1 : decode cX10_areKin 1 = .ok (.iload_n 2, 1) := by decide +kernel
theorem dX10_areKin_2 : decode cX10_areKin 2 = .ok (.if_icmp .eq 21, 3) := by decide +kernel
theorem dX10_areKin_5 : decode cX10_areKin 5 = .ok (.aload_n 0, 1) := by decide +kernel
theorem dX10_areKin_6 : decode cX10_areKin 6 = .ok (.iload_n 1, 1) := by decide +kernel
theorem dX10_areKin_7 : decode cX10_areKin 7 = .ok (.iload_n 2, 1) := by decide +kernel
theorem dX10_areKin_8 : decode cX10_areKin 8 = .ok (.invokevirtual 141, 3) := by decide +kernel
theorem dX10_areKin_11 : decode cX10_areKin 11 = .ok (.ifCond .ne 12, 3) := by decide +kernel
theorem dX10_areKin_14 : decode cX10_areKin 14 = .ok (.aload_n 0, 1) := by decide +kernel
theorem dX10_areKin_15 : decode cX10_areKin 15 = .ok (.iload_n 2, 1) := by decide +kernel
theorem dX10_areKin_16 : decode cX10_areKin 16 = .ok (.iload_n 1, 1) := by decide +kernel
theorem dX10_areKin_17 : decode cX10_areKin 17 = .ok (.invokevirtual 141, 3) := by decide +kernel
theorem dX10_areKin_20 : decode cX10_areKin 20 = .ok (.ifCond .eq 5, 3) := by decide +kernel
theorem dX10_areKin_23 : decode cX10_areKin 23 = .ok (.iconst 1, 1) := by decide +kernel
theorem dX10_areKin_24 : decode cX10_areKin 24 = .ok (.ireturn, 1) := by decide +kernel
theorem dX10_areKin_25 : decode cX10_areKin 25 = .ok (.iconst 0, 1) := by decide +kernel
theorem dX10_areKin_26 : decode cX10_areKin 26 = .ok (.istore_n 3, 1) := by decide +kernel
theorem dX10_areKin_27 : decode cX10_areKin 27 = .ok (.iconst 0, 1) := by decide +kernel
theorem dX10_areKin_28 : decode cX10_areKin 28 = .ok (.istore 4, 2) := by decide +kernel
theorem dX10_areKin_30 : decode cX10_areKin 30 = .ok (.iload 4, 2) := by decide +kernel
theorem dX10_areKin_32 : decode cX10_areKin 32 = .ok (.aload_n 0, 1) := by decide +kernel
theorem dX10_areKin_33 : decode cX10_areKin 33 = .ok (.getfield 121, 3) := by decide +kernel
theorem dX10_areKin_36 : decode cX10_areKin 36 = .ok (.if_icmp .ge 39, 3) := by decide +kernel
theorem dX10_areKin_39 : decode cX10_areKin 39 = .ok (.iload_n 3, 1) := by decide +kernel
theorem dX10_areKin_40 : decode cX10_areKin 40 = .ok (.ifCond .ne 23, 3) := by decide +kernel
theorem dX10_areKin_43 : decode cX10_areKin 43 = .ok (.aload_n 0, 1) := by decide +kernel
theorem dX10_areKin_44 : decode cX10_areKin 44 = .ok (.iload 4, 2) := by decide +kernel
theorem dX10_areKin_46 : decode cX10_areKin 46 = .ok (.iload_n 1, 1) := by decide +kernel
theorem dX10_areKin_47 : decode cX10_areKin 47 = .ok (.invokevirtual 141, 3) := by decide +kernel
theorem dX10_areKin_50 : decode cX10_areKin 50 = .ok (.ifCond .eq 17, 3) := by decide +kernel
theorem dX10_areKin_53 : decode cX10_areKin 53 = .ok (.aload_n 0, 1) := by decide +kernel
theorem dX10_areKin_54 : decode cX10_areKin 54 = .ok (.iload 4, 2) := by decide +kernel
theorem dX10_areKin_56 : decode cX10_areKin 56 = .ok (.iload_n 2, 1) := by decide +kernel
theorem dX10_areKin_57 : decode cX10_areKin 57 = .ok (.invokevirtual 141, 3) := by decide +kernel
theorem dX10_areKin_60 : decode cX10_areKin 60 = .ok (.ifCond .eq 7, 3) := by decide +kernel
theorem dX10_areKin_63 : decode cX10_areKin 63 = .ok (.iconst 1, 1) := by decide +kernel
theorem dX10_areKin_64 : decode cX10_areKin 64 = .ok (.goto 4, 3) := by decide +kernel
theorem dX10_areKin_67 : decode cX10_areKin 67 = .ok (.iconst 0, 1) := by decide +kernel
theorem dX10_areKin_68 : decode cX10_areKin 68 = .ok (.istore_n 3, 1) := by decide +kernel
theorem dX10_areKin_69 : decode cX10_areKin 69 = .ok (.iinc 4 1, 3) := by decide +kernel
theorem dX10_areKin_72 : decode cX10_areKin 72 = .ok (.goto (-42), 3) := by decide +kernel
theorem dX10_areKin_75 : decode cX10_areKin 75 = .ok (.iload_n 3, 1) := by decide +kernel
theorem dX10_areKin_76 : decode cX10_areKin 76 = .ok (.ireturn, 1) := by decide +kernel
theorem dX10_kin_0 : decode cX10_kin 0 = .ok (.aload_n 0, 1) := by decide +kernel
theorem dX10_kin_1 : decode cX10_kin 1 = .ok (.iconst 0, 1) := by decide +kernel
theorem dX10_kin_2 : decode cX10_kin 2 = .ok (.putfield 117, 3) := by decide +kernel
theorem dX10_kin_5 : decode cX10_kin 5 = .ok (.aload_n 0, 1) := by decide +kernel
theorem dX10_kin_6 : decode cX10_kin 6 = .ok (.iload_n 1, 1) := by decide +kernel
theorem dX10_kin_7 : decode cX10_kin 7 = .ok (.invokevirtual 124, 3) := by decide +kernel
theorem dX10_kin_10 : decode cX10_kin 10 = .ok (.ifCond .eq 24, 3) := by decide +kernel
theorem dX10_kin_13 : decode cX10_kin 13 = .ok (.aload_n 0, 1) := by decide +kernel
theorem dX10_kin_14 : decode cX10_kin 14 = .ok (.iload_n 2, 1) := by decide +kernel
theorem dX10_kin_15 : decode cX10_kin 15 = .ok (.invokevirtual 124, 3) := by decide +kernel
theorem dX10_kin_18 : decode cX10_kin 18 = .ok (.ifCond .eq 16, 3) := by decide +kernel
theorem dX10_kin_21 : decode cX10_kin 21 = .ok (.aload_n 0, 1) := by decide +kernel
theorem dX10_kin_22 : decode cX10_kin 22 = .ok (.iload_n 1, 1) := by decide +kernel
theorem dX10_kin_23 : decode cX10_kin 23 = .ok (.iload_n 2, 1) := by decide +kernel
theorem dX10_kin_24 : decode cX10_kin 24 = .ok (.invokevirtual 145, 3) := by decide +kernel
theorem dX10_kin_27 : decode cX10_kin 27 = .ok (.ifCond .eq 7, 3) := by decide +kernel
theorem dX10_kin_30 : decode cX10_kin 30 = .ok (.iconst 1, 1) := by decide +kernel
theorem dX10_kin_31 : decode cX10_kin 31 = .ok (.goto 4, 3) := by decide +kernel
theorem dX10_kin_34 : decode cX10_kin 34 = .ok (.iconst 0, 1) := by decide +kernel
theorem dX10_kin_35 : decode cX10_kin 35 = .ok (.ireturn, 1) := by decide +kernel
theorem dX10_term_0 : decode cX10_term 0 = .ok (.aload_n 0, 1) := by decide +kernel
theorem dX10_term_1 : decode cX10_term 1 = .ok (.iconst 0, 1) := by decide +kernel
theorem dX10_term_2 : decode cX10_term 2 = .ok (.putfield 117, 3) := by decide +kernel
theorem dX10_term_5 : decode cX10_term 5 = .ok (.aload_n 0, 1) := by decide +kernel
theorem dX10_term_6 : decode cX10_term 6 = .ok (.getfield 148, 3) := by decide +kernel
theorem dX10_term_9 : decode cX10_term 9 = .ok (.bipush 100, 2) := by decide +kernel
theorem dX10_term_11 : decode cX10_term 11 = .ok (.if_icmp .eq 48, 3) := by decide +kernel
theorem dX10_term_14 : decode cX10_term 14 = .ok (.aload_n 0, 1) := by decide +kernel
theorem dX10_term_15 : decode cX10_term 15 = .ok (.iload_n 1, 1) := by decide +kernel
theorem dX10_term_16 : decode cX10_term 16 = .ok (.invokevirtual 124, 3) := by decide +kernel
theorem dX10_term_19 : decode cX10_term 19 = .ok (.ifCond .eq 40, 3) := by decide +kernel
theorem dX10_term_22 : decode cX10_term 22 = .ok (.iload_n 2, 1) := by decide +kernel
theorem dX10_term_23 : decode cX10_term 23 = .ok (.iconst (-1), 1) := by decide +kernel
theorem dX10_term_24 : decode cX10_term 24 = .ok (.if_icmp .eq 16, 3) := by decide +kernel
theorem dX10_term_27 : decode cX10_term 27 = .ok (.aload_n 0, 1) := by decide +kernel
theorem dX10_term_28 : decode cX10_term 28 = .ok (.iload_n 2, 1) := by decide +kernel
theorem dX10_term_29 : decode cX10_term 29 = .ok (.invokevirtual 124, 3) := by decide +kernel
theorem dX10_term_32 : decode cX10_term 32 = .ok (.ifCond .eq 27, 3) := by decide +kernel
theorem dX10_term_35 : decode cX10_term 35 = .ok (.iload_n 2, 1) := by decide +kernel
theorem dX10_term_36 : decode cX10_term 36 = .ok (.iload_n 1, 1) := by decide +kernel
theorem dX10_term_37 : decode cX10_term 37 = .ok (.if_icmp .eq 22, 3) := by decide +kernel
theorem dX10_term_40 : decode cX10_term 40 = .ok (.iload_n 3, 1) := by decide +kernel
theorem dX10_term_41 : decode cX10_term 41 = .ok (.ifCond .lt 18, 3) := by decide +kernel
theorem dX10_term_44 : decode cX10_term 44 = .ok (.iload_n 3, 1) := by decide +kernel
theorem dX10_term_45 : decode cX10_term 45 = .ok (.iload 4, 2) := by decide +kernel
theorem dX10_term_47 : decode cX10_term 47 = .ok (.if_icmp .gt 12, 3) := by decide +kernel
theorem dX10_term_50 : decode cX10_term 50 = .ok (.iload 4, 2) := by decide +kernel
theorem dX10_term_52 : decode cX10_term 52 = .ok (.aload_n 0, 1) := by decide +kernel
theorem dX10_term_53 : decode cX10_term 53 = .ok (.getfield 134, 3) := by decide +kernel
theorem dX10_term_56 : decode cX10_term 56 = .ok (.if_icmp .le 5, 3) := by decide +kernel
theorem dX10_term_59 : decode cX10_term 59 = .ok (.iconst (-1), 1) := by decide +kernel
theorem dX10_term_60 : decode cX10_term 60 = .ok (.ireturn, 1) := by decide +kernel
theorem dX10_term_61 : decode cX10_term 61 = .ok (.aload_n 0, 1) := by decide +kernel
theorem dX10_term_62 : decode cX10_term 62 = .ok (.getfield 28, 3) := by decide +kernel
theorem dX10_term_65 : decode cX10_term 65 = .ok (.aload_n 0, 1) := by decide +kernel
theorem dX10_term_66 : decode cX10_term 66 = .ok (.getfield 148, 3) := by decide +kernel
theorem dX10_term_69 : decode cX10_term 69 = .ok (.iload_n 1, 1) := by decide +kernel
theorem dX10_term_70 : decode cX10_term 70 = .ok (.iastore, 1) := by decide +kernel
theorem dX10_term_71 : decode cX10_term 71 = .ok (.aload_n 0, 1) := by decide +kernel
theorem dX10_term_72 : decode cX10_term 72 = .ok (.getfield 31, 3) := by decide +kernel
theorem dX10_term_75 : decode cX10_term 75 = .ok (.aload_n 0, 1) := by decide +kernel
theorem dX10_term_76 : decode cX10_term 76 = .ok (.getfield 148, 3) := by decide +kernel
theorem dX10_term_79 : decode cX10_term 79 = .ok (.iload_n 2, 1) := by decide +kernel
theorem dX10_term_80 : decode cX10_term 80 = .ok (.iastore, 1) := by decide +kernel
theorem dX10_term_81 : decode cX10_term 81 = .ok (.aload_n 0, 1) := by decide +kernel
theorem dX10_term_82 : decode cX10_term 82 = .ok (.getfield 34, 3) := by decide +kernel
theorem dX10_term_85 : decode cX10_term 85 = .ok (.aload_n 0, 1) := by decide +kernel
theorem dX10_term_86 : decode cX10_term 86 = .ok (.getfield 148, 3) := by decide +kernel
theorem dX10_term_89 : decode cX10_term 89 = .ok (.iload_n 3, 1) := by decide +kernel
theorem dX10_term_90 : decode cX10_term 90 = .ok (.iastore, 1) := by decide +kernel
theorem dX10_term_91 : decode cX10_term 91 = .ok (.aload_n 0, 1) := by decide +kernel
theorem dX10_term_92 : decode cX10_term 92 = .ok (.getfield 37, 3) := by decide +kernel
theorem dX10_term_95 : decode cX10_term 95 = .ok (.aload_n 0, 1) := by decide +kernel
theorem dX10_term_96 : decode cX10_term 96 = .ok (.getfield 148, 3) := by decide +kernel
theorem dX10_term_99 : decode cX10_term 99 = .ok (.iload 4, 2) := by decide +kernel
theorem dX10_term_101 : decode cX10_term 101 = .ok (.iastore, 1) := by decide +kernel
theorem dX10_term_102 : decode cX10_term 102 = .ok (.aload_n 0, 1) := by decide +kernel
theorem dX10_term_103 : decode cX10_term 103 = .ok (.getfield 40, 3) := by decide +kernel
theorem dX10_term_106 : decode cX10_term 106 = .ok (.aload_n 0, 1) := by decide +kernel
theorem dX10_term_107 : decode cX10_term 107 = .ok (.getfield 148, 3) := by decide +kernel
theorem dX10_term_110 : decode cX10_term 110 = .ok (.aload_n 0, 1) := by decide +kernel
theorem dX10_term_111 : decode cX10_term 111 = .ok (.getfield 134, 3) := by decide +kernel
theorem dX10_term_114 : decode cX10_term 114 = .ok (.iastore, 1) := by decide +kernel
theorem dX10_term_115 : decode cX10_term 115 = .ok (.aload_n 0, 1) := by decide +kernel
theorem dX10_term_116 : decode cX10_term 116 = .ok (.getfield 43, 3) := by decide +kernel
theorem dX10_term_119 : decode cX10_term 119 = .ok (.aload_n 0, 1) := by decide +kernel
theorem dX10_term_120 : decode cX10_term 120 = .ok (.getfield 148, 3) := by decide +kernel
theorem dX10_term_123 : decode cX10_term 123 = .ok (.iconst (-1), 1) := by decide +kernel
theorem dX10_term_124 : decode cX10_term 124 = .ok (.iastore, 1) := by decide +kernel
theorem dX10_term_125 : decode cX10_term 125 = .ok (.aload_n 0, 1) := by decide +kernel
theorem dX10_term_126 : decode cX10_term 126 = .ok (.dup, 1) := by decide +kernel
theorem dX10_term_127 : decode cX10_term 127 = .ok (.getfield 148, 3) := by decide +kernel
theorem dX10_term_130 : decode cX10_term 130 = .ok (.iconst 1, 1) := by decide +kernel
theorem dX10_term_131 : decode cX10_term 131 = .ok (.iadd, 1) := by decide +kernel
theorem dX10_term_132 : decode cX10_term 132 = .ok (.putfield 148, 3) := by decide +kernel
theorem dX10_term_135 : decode cX10_term 135 = .ok (.aload_n 0, 1) := by decide +kernel
theorem dX10_term_136 : decode cX10_term 136 = .ok (.getfield 148, 3) := by decide +kernel
theorem dX10_term_139 : decode cX10_term 139 = .ok (.iconst 1, 1) := by decide +kernel
theorem dX10_term_140 : decode cX10_term 140 = .ok (.isub, 1) := by decide +kernel
theorem dX10_term_141 : decode cX10_term 141 = .ok (.ireturn, 1) := by decide +kernel
theorem dX10_back_0 : decode cX10_back 0 = .ok (.aload_n 0, 1) := by decide +kernel
theorem dX10_back_1 : decode cX10_back 1 = .ok (.iconst 0, 1) := by decide +kernel
theorem dX10_back_2 : decode cX10_back 2 = .ok (.putfield 117, 3) := by decide +kernel
theorem dX10_back_5 : decode cX10_back 5 = .ok (.iload_n 1, 1) := by decide +kernel
theorem dX10_back_6 : decode cX10_back 6 = .ok (.ifCond .lt 21, 3) := by decide +kernel
theorem dX10_back_9 : decode cX10_back 9 = .ok (.iload_n 1, 1) := by decide +kernel
theorem dX10_back_10 : decode cX10_back 10 = .ok (.aload_n 0, 1) := by decide +kernel
theorem dX10_back_11 : decode cX10_back 11 = .ok (.getfield 148, 3) := by decide +kernel
theorem dX10_back_14 : decode cX10_back 14 = .ok (.if_icmp .ge 13, 3) := by decide +kernel
theorem dX10_back_17 : decode cX10_back 17 = .ok (.aload_n 0, 1) := by decide +kernel
theorem dX10_back_18 : decode cX10_back 18 = .ok (.getfield 43, 3) := by decide +kernel
theorem dX10_back_21 : decode cX10_back 21 = .ok (.iload_n 1, 1) := by decide +kernel
theorem dX10_back_22 : decode cX10_back 22 = .ok (.iaload, 1) := by decide +kernel
theorem dX10_back_23 : decode cX10_back 23 = .ok (.iconst (-1), 1) := by decide +kernel
theorem dX10_back_24 : decode cX10_back 24 = .ok (.if_icmp .eq 5, 3) := by decide +kernel
theorem dX10_back_27 : decode cX10_back 27 = .ok (.iconst 0, 1) := by decide +kernel
theorem dX10_back_28 : decode cX10_back 28 = .ok (.ireturn, 1) := by decide +kernel
theorem dX10_back_29 : decode cX10_back 29 = .ok (.aload_n 0, 1) := by decide +kernel
theorem dX10_back_30 : decode cX10_back 30 = .ok (.getfield 43, 3) := by decide +kernel
theorem dX10_back_33 : decode cX10_back 33 = .ok (.iload_n 1, 1) := by decide +kernel
theorem dX10_back_34 : decode cX10_back 34 = .ok (.aload_n 0, 1) := by decide +kernel
theorem dX10_back_35 : decode cX10_back 35 = .ok (.getfield 134, 3) := by decide +kernel
theorem dX10_back_38 : decode cX10_back 38 = .ok (.iastore, 1) := by decide +kernel
theorem dX10_back_39 : decode cX10_back 39 = .ok (.iconst 1, 1) := by decide +kernel
theorem dX10_back_40 : decode cX10_back 40 = .ok (.ireturn, 1) := by decide +kernel
theorem dX10_isKnown_0 : decode cX10_isKnown 0 = .ok (.aload_n 0, 1) := by decide +kernel
theorem dX10_isKnown_1 : decode cX10_isKnown 1 = .ok (.getfield 40, 3) := by decide +kernel
theorem dX10_isKnown_4 : decode cX10_isKnown 4 = .ok (.iload_n 1, 1) := by decide +kernel
theorem dX10_isKnown_5 : decode cX10_isKnown 5 = .ok (.iaload, 1) := by decide +kernel
theorem dX10_isKnown_6 : decode cX10_isKnown 6 = .ok (.iload_n 2, 1) := by decide +kernel
theorem dX10_isKnown_7 : decode cX10_isKnown 7 = .ok (.if_icmp .gt 27, 3) := by decide +kernel
theorem dX10_isKnown_10 : decode cX10_isKnown 10 = .ok (.aload_n 0, 1) := by decide +kernel
theorem dX10_isKnown_11 : decode cX10_isKnown 11 = .ok (.getfield 43, 3) := by decide +kernel
theorem dX10_isKnown_14 : decode cX10_isKnown 14 = .ok (.iload_n 1, 1) := by decide +kernel
theorem dX10_isKnown_15 : decode cX10_isKnown 15 = .ok (.iaload, 1) := by decide +kernel
theorem dX10_isKnown_16 : decode cX10_isKnown 16 = .ok (.iconst (-1), 1) := by decide +kernel
theorem dX10_isKnown_17 : decode cX10_isKnown 17 = .ok (.if_icmp .eq 13, 3) := by decide +kernel
theorem dX10_isKnown_20 : decode cX10_isKnown 20 = .ok (.aload_n 0, 1) := by decide +kernel
theorem dX10_isKnown_21 : decode cX10_isKnown 21 = .ok (.getfield 43, 3) := by decide +kernel
theorem dX10_isKnown_24 : decode cX10_isKnown 24 = .ok (.iload_n 1, 1) := by decide +kernel
theorem dX10_isKnown_25 : decode cX10_isKnown 25 = .ok (.iaload, 1) := by decide +kernel
theorem dX10_isKnown_26 : decode cX10_isKnown 26 = .ok (.iload_n 2, 1) := by decide +kernel
theorem dX10_isKnown_27 : decode cX10_isKnown 27 = .ok (.if_icmp .le 7, 3) := by decide +kernel
theorem dX10_isKnown_30 : decode cX10_isKnown 30 = .ok (.iconst 1, 1) := by decide +kernel
theorem dX10_isKnown_31 : decode cX10_isKnown 31 = .ok (.goto 4, 3) := by decide +kernel
theorem dX10_isKnown_34 : decode cX10_isKnown 34 = .ok (.iconst 0, 1) := by decide +kernel
theorem dX10_isKnown_35 : decode cX10_isKnown 35 = .ok (.ireturn, 1) := by decide +kernel
theorem dX10_give_0 : decode cX10_give 0 = .ok (.aload_n 0, 1) := by decide +kernel
theorem dX10_give_1 : decode cX10_give 1 = .ok (.iconst 0, 1) := by decide +kernel
theorem dX10_give_2 : decode cX10_give 2 = .ok (.putfield 117, 3) := by decide +kernel
theorem dX10_give_5 : decode cX10_give 5 = .ok (.aload_n 0, 1) := by decide +kernel
theorem dX10_give_6 : decode cX10_give 6 = .ok (.getfield 151, 3) := by decide +kernel
theorem dX10_give_9 : decode cX10_give 9 = .ok (.bipush 100, 2) := by decide +kernel
theorem dX10_give_11 : decode cX10_give 11 = .ok (.if_icmp .eq 32, 3) := by decide +kernel
theorem dX10_give_14 : decode cX10_give 14 = .ok (.aload_n 0, 1) := by decide +kernel
theorem dX10_give_15 : decode cX10_give 15 = .ok (.iload_n 1, 1) := by decide +kernel
theorem dX10_give_16 : decode cX10_give 16 = .ok (.invokevirtual 128, 3) := by decide +kernel
theorem dX10_give_19 : decode cX10_give 19 = .ok (.ifCond .eq 24, 3) := by decide +kernel
theorem dX10_give_22 : decode cX10_give 22 = .ok (.iload_n 2, 1) := by decide +kernel
theorem dX10_give_23 : decode cX10_give 23 = .ok (.iconst 0, 1) := by decide +kernel
theorem dX10_give_24 : decode cX10_give 24 = .ok (.bipush 9, 2) := by decide +kernel
theorem dX10_give_26 : decode cX10_give 26 = .ok (.invokestatic 137, 3) := by decide +kernel
theorem dX10_give_29 : decode cX10_give 29 = .ok (.ifCond .eq 14, 3) := by decide +kernel
theorem dX10_give_32 : decode cX10_give 32 = .ok (.iload_n 3, 1) := by decide +kernel
theorem dX10_give_33 : decode cX10_give 33 = .ok (.iconst 0, 1) := by decide +kernel
theorem dX10_give_34 : decode cX10_give 34 = .ok (.sipush 9999, 3) := by decide +kernel
theorem dX10_give_37 : decode cX10_give 37 = .ok (.invokestatic 137, 3) := by decide +kernel
theorem dX10_give_40 : decode cX10_give 40 = .ok (.ifCond .ne 5, 3) := by decide +kernel
theorem dX10_give_43 : decode cX10_give 43 = .ok (.iconst 0, 1) := by decide +kernel
theorem dX10_give_44 : decode cX10_give 44 = .ok (.ireturn, 1) := by decide +kernel
theorem dX10_give_45 : decode cX10_give 45 = .ok (.aload_n 0, 1) := by decide +kernel
theorem dX10_give_46 : decode cX10_give 46 = .ok (.getfield 46, 3) := by decide +kernel
theorem dX10_give_49 : decode cX10_give 49 = .ok (.aload_n 0, 1) := by decide +kernel
theorem dX10_give_50 : decode cX10_give 50 = .ok (.getfield 151, 3) := by decide +kernel
theorem dX10_give_53 : decode cX10_give 53 = .ok (.iload_n 1, 1) := by decide +kernel
theorem dX10_give_54 : decode cX10_give 54 = .ok (.iastore, 1) := by decide +kernel
theorem dX10_give_55 : decode cX10_give 55 = .ok (.aload_n 0, 1) := by decide +kernel
theorem dX10_give_56 : decode cX10_give 56 = .ok (.getfield 49, 3) := by decide +kernel
theorem dX10_give_59 : decode cX10_give 59 = .ok (.aload_n 0, 1) := by decide +kernel
theorem dX10_give_60 : decode cX10_give 60 = .ok (.getfield 151, 3) := by decide +kernel
theorem dX10_give_63 : decode cX10_give 63 = .ok (.iload_n 2, 1) := by decide +kernel
theorem dX10_give_64 : decode cX10_give 64 = .ok (.iastore, 1) := by decide +kernel
theorem dX10_give_65 : decode cX10_give 65 = .ok (.aload_n 0, 1) := by decide +kernel
theorem dX10_give_66 : decode cX10_give 66 = .ok (.getfield 52, 3) := by decide +kernel
theorem dX10_give_69 : decode cX10_give 69 = .ok (.aload_n 0, 1) := by decide +kernel
theorem dX10_give_70 : decode cX10_give 70 = .ok (.getfield 151, 3) := by decide +kernel
theorem dX10_give_73 : decode cX10_give 73 = .ok (.iload_n 3, 1) := by decide +kernel
theorem dX10_give_74 : decode cX10_give 74 = .ok (.iastore, 1) := by decide +kernel
theorem dX10_give_75 : decode cX10_give 75 = .ok (.aload_n 0, 1) := by decide +kernel
theorem dX10_give_76 : decode cX10_give 76 = .ok (.getfield 55, 3) := by decide +kernel
theorem dX10_give_79 : decode cX10_give 79 = .ok (.aload_n 0, 1) := by decide +kernel
theorem dX10_give_80 : decode cX10_give 80 = .ok (.getfield 151, 3) := by decide +kernel
theorem dX10_give_83 : decode cX10_give 83 = .ok (.aload_n 0, 1) := by decide +kernel
theorem dX10_give_84 : decode cX10_give 84 = .ok (.getfield 134, 3) := by decide +kernel
theorem dX10_give_87 : decode cX10_give 87 = .ok (.iastore, 1) := by decide +kernel
theorem dX10_give_88 : decode cX10_give 88 = .ok (.aload_n 0, 1) := by decide +kernel
theorem dX10_give_89 : decode cX10_give 89 = .ok (.dup, 1) := by decide +kernel
theorem dX10_give_90 : decode cX10_give 90 = .ok (.getfield 151, 3) := by decide +kernel
theorem dX10_give_93 : decode cX10_give 93 = .ok (.iconst 1, 1) := by decide +kernel
theorem dX10_give_94 : decode cX10_give 94 = .ok (.iadd, 1) := by decide +kernel
theorem dX10_give_95 : decode cX10_give 95 = .ok (.putfield 151, 3) := by decide +kernel
theorem dX10_give_98 : decode cX10_give 98 = .ok (.iconst 1, 1) := by decide +kernel
theorem dX10_give_99 : decode cX10_give 99 = .ok (.ireturn, 1) := by decide +kernel
theorem dX10_mark_0 : decode cX10_mark 0 = .ok (.iconst 0, 1) := by decide +kernel
theorem dX10_mark_1 : decode cX10_mark 1 = .ok (.istore 4, 2) := by decide +kernel
theorem dX10_mark_3 : decode cX10_mark 3 = .ok (.iload 4, 2) := by decide +kernel
theorem dX10_mark_5 : decode cX10_mark 5 = .ok (.iload_n 2, 1) := by decide +kernel
theorem dX10_mark_6 : decode cX10_mark 6 = .ok (.if_icmp .gt 25, 3) := by decide +kernel
theorem dX10_mark_9 : decode cX10_mark 9 = .ok (.aload_n 0, 1) := by decide +kernel
theorem dX10_mark_10 : decode cX10_mark 10 = .ok (.getfield 101, 3) := by decide +kernel
theorem dX10_mark_13 : decode cX10_mark 13 = .ok (.iload 4, 2) := by decide +kernel
theorem dX10_mark_15 : decode cX10_mark 15 = .ok (.iconst 0, 1) := by decide +kernel
theorem dX10_mark_16 : decode cX10_mark 16 = .ok (.bastore, 1) := by decide +kernel
theorem dX10_mark_17 : decode cX10_mark 17 = .ok (.aload_n 0, 1) := by decide +kernel
theorem dX10_mark_18 : decode cX10_mark 18 = .ok (.getfield 107, 3) := by decide +kernel
theorem dX10_mark_21 : decode cX10_mark 21 = .ok (.iload 4, 2) := by decide +kernel
theorem dX10_mark_23 : decode cX10_mark 23 = .ok (.iconst 0, 1) := by decide +kernel
theorem dX10_mark_24 : decode cX10_mark 24 = .ok (.bastore, 1) := by decide +kernel
theorem dX10_mark_25 : decode cX10_mark 25 = .ok (.iinc 4 1, 3) := by decide +kernel
theorem dX10_mark_28 : decode cX10_mark 28 = .ok (.goto (-25), 3) := by decide +kernel
theorem dX10_mark_31 : decode cX10_mark 31 = .ok (.iconst 0, 1) := by decide +kernel
theorem dX10_mark_32 : decode cX10_mark 32 = .ok (.istore 4, 2) := by decide +kernel
theorem dX10_mark_34 : decode cX10_mark 34 = .ok (.iload 4, 2) := by decide +kernel
theorem dX10_mark_36 : decode cX10_mark 36 = .ok (.aload_n 0, 1) := by decide +kernel
theorem dX10_mark_37 : decode cX10_mark 37 = .ok (.getfield 148, 3) := by decide +kernel
theorem dX10_mark_40 : decode cX10_mark 40 = .ok (.if_icmp .ge 148, 3) := by decide +kernel
theorem dX10_mark_43 : decode cX10_mark 43 = .ok (.aload_n 0, 1) := by decide +kernel
theorem dX10_mark_44 : decode cX10_mark 44 = .ok (.getfield 28, 3) := by decide +kernel
theorem dX10_mark_47 : decode cX10_mark 47 = .ok (.iload 4, 2) := by decide +kernel
theorem dX10_mark_49 : decode cX10_mark 49 = .ok (.iaload, 1) := by decide +kernel
theorem dX10_mark_50 : decode cX10_mark 50 = .ok (.iload_n 1, 1) := by decide +kernel
theorem dX10_mark_51 : decode cX10_mark 51 = .ok (.if_icmp .ne 131, 3) := by decide +kernel
theorem dX10_mark_54 : decode cX10_mark 54 = .ok (.aload_n 0, 1) := by decide +kernel
theorem dX10_mark_55 : decode cX10_mark 55 = .ok (.iload 4, 2) := by decide +kernel
theorem dX10_mark_57 : decode cX10_mark 57 = .ok (.iload_n 3, 1) := by decide +kernel
theorem dX10_mark_58 : decode cX10_mark 58 = .ok (.invokevirtual 154, 3) := by decide +kernel
theorem dX10_mark_61 : decode cX10_mark 61 = .ok (.ifCond .ne 6, 3) := by decide +kernel
theorem dX10_mark_64 : decode cX10_mark 64 = .ok (.goto 118, 3) := by decide +kernel
theorem dX10_mark_67 : decode cX10_mark 67 = .ok (.aload_n 0, 1) := by decide +kernel
theorem dX10_mark_68 : decode cX10_mark 68 = .ok (.getfield 34, 3) := by decide +kernel
theorem dX10_mark_71 : decode cX10_mark 71 = .ok (.iload 4, 2) := by decide +kernel
theorem dX10_mark_73 : decode cX10_mark 73 = .ok (.iaload, 1) := by decide +kernel
theorem dX10_mark_74 : decode cX10_mark 74 = .ok (.istore 5, 2) := by decide +kernel
theorem dX10_mark_76 : decode cX10_mark 76 = .ok (.iload 5, 2) := by decide +kernel
theorem dX10_mark_78 : decode cX10_mark 78 = .ok (.aload_n 0, 1) := by decide +kernel
theorem dX10_mark_79 : decode cX10_mark 79 = .ok (.getfield 37, 3) := by decide +kernel
theorem dX10_mark_82 : decode cX10_mark 82 = .ok (.iload 4, 2) := by decide +kernel
theorem dX10_mark_84 : decode cX10_mark 84 = .ok (.iaload, 1) := by decide +kernel
theorem dX10_mark_85 : decode cX10_mark 85 = .ok (.if_icmp .gt 97, 3) := by decide +kernel
theorem dX10_mark_88 : decode cX10_mark 88 = .ok (.iload 5, 2) := by decide +kernel
theorem dX10_mark_90 : decode cX10_mark 90 = .ok (.iload_n 2, 1) := by decide +kernel
theorem dX10_mark_91 : decode cX10_mark 91 = .ok (.if_icmp .gt 91, 3) := by decide +kernel
theorem dX10_mark_94 : decode cX10_mark 94 = .ok (.aload_n 0, 1) := by decide +kernel
theorem dX10_mark_95 : decode cX10_mark 95 = .ok (.getfield 31, 3) := by decide +kernel
theorem dX10_mark_98 : decode cX10_mark 98 = .ok (.iload 4, 2) := by decide +kernel
theorem dX10_mark_100 : decode cX10_mark 100 = .ok (.iaload, 1) := by decide +kernel
theorem dX10_mark_101 : decode cX10_mark 101 = .ok (.iconst (-1), 1) := by decide +kernel
theorem dX10_mark_102 : decode cX10_mark 102 = .ok (.if_icmp .ne 14, 3) := by decide +kernel
theorem dX10_mark_105 : decode cX10_mark 105 = .ok (.aload_n 0, 1) := by decide +kernel
theorem dX10_mark_106 : decode cX10_mark 106 = .ok (.getfield 107, 3) := by decide +kernel
theorem dX10_mark_109 : decode cX10_mark 109 = .ok (.iload 5, 2) := by decide +kernel
theorem dX10_mark_111 : decode cX10_mark 111 = .ok (.iconst 1, 1) := by decide +kernel
theorem dX10_mark_112 : decode cX10_mark 112 = .ok (.bastore, 1) := by decide +kernel
theorem dX10_mark_113 : decode cX10_mark 113 = .ok (.goto 63, 3) := by decide +kernel
theorem dX10_mark_116 : decode cX10_mark 116 = .ok (.aload_n 0, 1) := by decide +kernel
theorem dX10_mark_117 : decode cX10_mark 117 = .ok (.getfield 101, 3) := by decide +kernel
theorem dX10_mark_120 : decode cX10_mark 120 = .ok (.iload 5, 2) := by decide +kernel
theorem dX10_mark_122 : decode cX10_mark 122 = .ok (.baload, 1) := by decide +kernel
theorem dX10_mark_123 : decode cX10_mark 123 = .ok (.ifCond .ne 28, 3) := by decide +kernel
theorem dX10_mark_126 : decode cX10_mark 126 = .ok (.aload_n 0, 1) := by decide +kernel
theorem dX10_mark_127 : decode cX10_mark 127 = .ok (.getfield 101, 3) := by decide +kernel
theorem dX10_mark_130 : decode cX10_mark 130 = .ok (.iload 5, 2) := by decide +kernel
theorem dX10_mark_132 : decode cX10_mark 132 = .ok (.iconst 1, 1) := by decide +kernel
theorem dX10_mark_133 : decode cX10_mark 133 = .ok (.bastore, 1) := by decide +kernel
theorem dX10_mark_134 : decode cX10_mark 134 = .ok (.aload_n 0, 1) := by decide +kernel
theorem dX10_mark_135 : decode cX10_mark 135 = .ok (.getfield 104, 3) := by decide +kernel
theorem dX10_mark_138 : decode cX10_mark 138 = .ok (.iload 5, 2) := by decide +kernel
theorem dX10_mark_140 : decode cX10_mark 140 = .ok (.aload_n 0, 1) := by decide +kernel
theorem dX10_mark_141 : decode cX10_mark 141 = .ok (.getfield 31, 3) := by decide +kernel
theorem dX10_mark_144 : decode cX10_mark 144 = .ok (.iload 4, 2) := by decide +kernel
theorem dX10_mark_146 : decode cX10_mark 146 = .ok (.iaload, 1) := by decide +kernel
theorem dX10_mark_147 : decode cX10_mark 147 = .ok (.iastore, 1) := by decide +kernel
theorem dX10_mark_148 : decode cX10_mark 148 = .ok (.goto 28, 3) := by decide +kernel
theorem dX10_mark_151 : decode cX10_mark 151 = .ok (.aload_n 0, 1) := by decide +kernel
theorem dX10_mark_152 : decode cX10_mark 152 = .ok (.getfield 104, 3) := by decide +kernel
theorem dX10_mark_155 : decode cX10_mark 155 = .ok (.iload 5, 2) := by decide +kernel
theorem dX10_mark_157 : decode cX10_mark 157 = .ok (.iaload, 1) := by decide +kernel
theorem dX10_mark_158 : decode cX10_mark 158 = .ok (.aload_n 0, 1) := by decide +kernel
theorem dX10_mark_159 : decode cX10_mark 159 = .ok (.getfield 31, 3) := by decide +kernel
theorem dX10_mark_162 : decode cX10_mark 162 = .ok (.iload 4, 2) := by decide +kernel
theorem dX10_mark_164 : decode cX10_mark 164 = .ok (.iaload, 1) := by decide +kernel
theorem dX10_mark_165 : decode cX10_mark 165 = .ok (.if_icmp .eq 11, 3) := by decide +kernel
theorem dX10_mark_168 : decode cX10_mark 168 = .ok (.aload_n 0, 1) := by decide +kernel
theorem dX10_mark_169 : decode cX10_mark 169 = .ok (.getfield 101, 3) := by decide +kernel
theorem dX10_mark_172 : decode cX10_mark 172 = .ok (.iload 5, 2) := by decide +kernel
theorem dX10_mark_174 : decode cX10_mark 174 = .ok (.iconst 2, 1) := by decide +kernel
theorem dX10_mark_175 : decode cX10_mark 175 = .ok (.bastore, 1) := by decide +kernel
theorem dX10_mark_176 : decode cX10_mark 176 = .ok (.iinc 5 1, 3) := by decide +kernel
theorem dX10_mark_179 : decode cX10_mark 179 = .ok (.goto (-103), 3) := by decide +kernel
theorem dX10_mark_182 : decode cX10_mark 182 = .ok (.iinc 4 1, 3) := by decide +kernel
theorem dX10_mark_185 : decode cX10_mark 185 = .ok (.goto (-151), 3) := by decide +kernel
theorem dX10_mark_188 : decode cX10_mark 188 = .ok (.return_, 1) := by decide +kernel
theorem dX10_values_0 : decode cX10_values 0 = .ok (.iconst 0, 1) := by decide +kernel
theorem dX10_values_1 : decode cX10_values 1 = .ok (.istore 4, 2) := by decide +kernel
theorem dX10_values_3 : decode cX10_values 3 = .ok (.iload 4, 2) := by decide +kernel
theorem dX10_values_5 : decode cX10_values 5 = .ok (.bipush 7, 2) := by decide +kernel
theorem dX10_values_7 : decode cX10_values 7 = .ok (.if_icmp .ge 17, 3) := by decide +kernel
theorem dX10_values_10 : decode cX10_values 10 = .ok (.aload_n 0, 1) := by decide +kernel
theorem dX10_values_11 : decode cX10_values 11 = .ok (.getfield 111, 3) := by decide +kernel
theorem dX10_values_14 : decode cX10_values 14 = .ok (.iload 4, 2) := by decide +kernel
theorem dX10_values_16 : decode cX10_values 16 = .ok (.iconst 0, 1) := by decide +kernel
theorem dX10_values_17 : decode cX10_values 17 = .ok (.iastore, 1) := by decide +kernel
theorem dX10_values_18 : decode cX10_values 18 = .ok (.iinc 4 1, 3) := by decide +kernel
theorem dX10_values_21 : decode cX10_values 21 = .ok (.goto (-18), 3) := by decide +kernel
theorem dX10_values_24 : decode cX10_values 24 = .ok (.aload_n 0, 1) := by decide +kernel
theorem dX10_values_25 : decode cX10_values 25 = .ok (.getfield 111, 3) := by decide +kernel
theorem dX10_values_28 : decode cX10_values 28 = .ok (.bipush 7, 2) := by decide +kernel
theorem dX10_values_30 : decode cX10_values 30 = .ok (.iconst (-1), 1) := by decide +kernel
theorem dX10_values_31 : decode cX10_values 31 = .ok (.iastore, 1) := by decide +kernel
theorem dX10_values_32 : decode cX10_values 32 = .ok (.aload_n 0, 1) := by decide +kernel
theorem dX10_values_33 : decode cX10_values 33 = .ok (.iload_n 1, 1) := by decide +kernel
theorem dX10_values_34 : decode cX10_values 34 = .ok (.iload_n 2, 1) := by decide +kernel
theorem dX10_values_35 : decode cX10_values 35 = .ok (.iload_n 3, 1) := by decide +kernel
theorem dX10_values_36 : decode cX10_values 36 = .ok (.invokevirtual 157, 3) := by decide +kernel
theorem dX10_values_39 : decode cX10_values 39 = .ok (.iconst 0, 1) := by decide +kernel
theorem dX10_values_40 : decode cX10_values 40 = .ok (.istore 4, 2) := by decide +kernel
theorem dX10_values_42 : decode cX10_values 42 = .ok (.iload 4, 2) := by decide +kernel
theorem dX10_values_44 : decode cX10_values 44 = .ok (.iload_n 2, 1) := by decide +kernel
theorem dX10_values_45 : decode cX10_values 45 = .ok (.if_icmp .gt 94, 3) := by decide +kernel
theorem dX10_values_48 : decode cX10_values 48 = .ok (.aload_n 0, 1) := by decide +kernel
theorem dX10_values_49 : decode cX10_values 49 = .ok (.getfield 101, 3) := by decide +kernel
theorem dX10_values_52 : decode cX10_values 52 = .ok (.iload 4, 2) := by decide +kernel
theorem dX10_values_54 : decode cX10_values 54 = .ok (.baload, 1) := by decide +kernel
theorem dX10_values_55 : decode cX10_values 55 = .ok (.ifCond .le 36, 3) := by decide +kernel
theorem dX10_values_58 : decode cX10_values 58 = .ok (.aload_n 0, 1) := by decide +kernel
theorem dX10_values_59 : decode cX10_values 59 = .ok (.getfield 111, 3) := by decide +kernel
theorem dX10_values_62 : decode cX10_values 62 = .ok (.iconst 0, 1) := by decide +kernel
theorem dX10_values_63 : decode cX10_values 63 = .ok (.dup2, 1) := by decide +kernel
theorem dX10_values_64 : decode cX10_values 64 = .ok (.iaload, 1) := by decide +kernel
theorem dX10_values_65 : decode cX10_values 65 = .ok (.iconst 1, 1) := by decide +kernel
theorem dX10_values_66 : decode cX10_values 66 = .ok (.iadd, 1) := by decide +kernel
theorem dX10_values_67 : decode cX10_values 67 = .ok (.iastore, 1) := by decide +kernel
theorem dX10_values_68 : decode cX10_values 68 = .ok (.aload_n 0, 1) := by decide +kernel
theorem dX10_values_69 : decode cX10_values 69 = .ok (.getfield 111, 3) := by decide +kernel
theorem dX10_values_72 : decode cX10_values 72 = .ok (.bipush 7, 2) := by decide +kernel
theorem dX10_values_74 : decode cX10_values 74 = .ok (.iaload, 1) := by decide +kernel
theorem dX10_values_75 : decode cX10_values 75 = .ok (.iconst (-1), 1) := by decide +kernel
theorem dX10_values_76 : decode cX10_values 76 = .ok (.if_icmp .ne 35, 3) := by decide +kernel
theorem dX10_values_79 : decode cX10_values 79 = .ok (.aload_n 0, 1) := by decide +kernel
theorem dX10_values_80 : decode cX10_values 80 = .ok (.getfield 111, 3) := by decide +kernel
theorem dX10_values_83 : decode cX10_values 83 = .ok (.bipush 7, 2) := by decide +kernel
theorem dX10_values_85 : decode cX10_values 85 = .ok (.iload 4, 2) := by decide +kernel
theorem dX10_values_87 : decode cX10_values 87 = .ok (.iastore, 1) := by decide +kernel
theorem dX10_values_88 : decode cX10_values 88 = .ok (.goto 23, 3) := by decide +kernel
theorem dX10_values_91 : decode cX10_values 91 = .ok (.aload_n 0, 1) := by decide +kernel
theorem dX10_values_92 : decode cX10_values 92 = .ok (.getfield 107, 3) := by decide +kernel
theorem dX10_values_95 : decode cX10_values 95 = .ok (.iload 4, 2) := by decide +kernel
theorem dX10_values_97 : decode cX10_values 97 = .ok (.baload, 1) := by decide +kernel
theorem dX10_values_98 : decode cX10_values 98 = .ok (.ifCond .eq 13, 3) := by decide +kernel
theorem dX10_values_101 : decode cX10_values 101 = .ok (.aload_n 0, 1) := by decide +kernel
theorem dX10_values_102 : decode cX10_values 102 = .ok (.getfield 111, 3) := by decide +kernel
theorem dX10_values_105 : decode cX10_values 105 = .ok (.iconst 1, 1) := by decide +kernel
theorem dX10_values_106 : decode cX10_values 106 = .ok (.dup2, 1) := by decide +kernel
theorem dX10_values_107 : decode cX10_values 107 = .ok (.iaload, 1) := by decide +kernel
theorem dX10_values_108 : decode cX10_values 108 = .ok (.iconst 1, 1) := by decide +kernel
theorem dX10_values_109 : decode cX10_values 109 = .ok (.iadd, 1) := by decide +kernel
theorem dX10_values_110 : decode cX10_values 110 = .ok (.iastore, 1) := by decide +kernel
theorem dX10_values_111 : decode cX10_values 111 = .ok (.aload_n 0, 1) := by decide +kernel
theorem dX10_values_112 : decode cX10_values 112 = .ok (.getfield 101, 3) := by decide +kernel
theorem dX10_values_115 : decode cX10_values 115 = .ok (.iload 4, 2) := by decide +kernel
theorem dX10_values_117 : decode cX10_values 117 = .ok (.baload, 1) := by decide +kernel
theorem dX10_values_118 : decode cX10_values 118 = .ok (.iconst 1, 1) := by decide +kernel
theorem dX10_values_119 : decode cX10_values 119 = .ok (.if_icmp .le 14, 3) := by decide +kernel
theorem dX10_values_122 : decode cX10_values 122 = .ok (.aload_n 0, 1) := by decide +kernel
theorem dX10_values_123 : decode cX10_values 123 = .ok (.getfield 111, 3) := by decide +kernel
theorem dX10_values_126 : decode cX10_values 126 = .ok (.bipush 6, 2) := by decide +kernel
theorem dX10_values_128 : decode cX10_values 128 = .ok (.dup2, 1) := by decide +kernel
theorem dX10_values_129 : decode cX10_values 129 = .ok (.iaload, 1) := by decide +kernel
theorem dX10_values_130 : decode cX10_values 130 = .ok (.iconst 1, 1) := by decide +kernel
theorem dX10_values_131 : decode cX10_values 131 = .ok (.iadd, 1) := by decide +kernel
theorem dX10_values_132 : decode cX10_values 132 = .ok (.iastore, 1) := by decide +kernel
theorem dX10_values_133 : decode cX10_values 133 = .ok (.iinc 4 1, 3) := by decide +kernel
theorem dX10_values_136 : decode cX10_values 136 = .ok (.goto (-94), 3) := by decide +kernel
theorem dX10_values_139 : decode cX10_values 139 = .ok (.iconst 0, 1) := by decide +kernel
theorem dX10_values_140 : decode cX10_values 140 = .ok (.istore 4, 2) := by decide +kernel
theorem dX10_values_142 : decode cX10_values 142 = .ok (.iload 4, 2) := by decide +kernel
theorem dX10_values_144 : decode cX10_values 144 = .ok (.aload_n 0, 1) := by decide +kernel
theorem dX10_values_145 : decode cX10_values 145 = .ok (.getfield 151, 3) := by decide +kernel
theorem dX10_values_148 : decode cX10_values 148 = .ok (.if_icmp .ge 77, 3) := by decide +kernel
theorem dX10_values_151 : decode cX10_values 151 = .ok (.aload_n 0, 1) := by decide +kernel
theorem dX10_values_152 : decode cX10_values 152 = .ok (.getfield 46, 3) := by decide +kernel
theorem dX10_values_155 : decode cX10_values 155 = .ok (.iload 4, 2) := by decide +kernel
theorem dX10_values_157 : decode cX10_values 157 = .ok (.iaload, 1) := by decide +kernel
theorem dX10_values_158 : decode cX10_values 158 = .ok (.iload_n 1, 1) := by decide +kernel
theorem dX10_values_159 : decode cX10_values 159 = .ok (.if_icmp .ne 60, 3) := by decide +kernel
theorem dX10_values_162 : decode cX10_values 162 = .ok (.aload_n 0, 1) := by decide +kernel
theorem dX10_values_163 : decode cX10_values 163 = .ok (.getfield 55, 3) := by decide +kernel
theorem dX10_values_166 : decode cX10_values 166 = .ok (.iload 4, 2) := by decide +kernel
theorem dX10_values_168 : decode cX10_values 168 = .ok (.iaload, 1) := by decide +kernel
theorem dX10_values_169 : decode cX10_values 169 = .ok (.iload_n 2, 1) := by decide +kernel
theorem dX10_values_170 : decode cX10_values 170 = .ok (.if_icmp .gt 49, 3) := by decide +kernel
theorem dX10_values_173 : decode cX10_values 173 = .ok (.aload_n 0, 1) := by decide +kernel
theorem dX10_values_174 : decode cX10_values 174 = .ok (.getfield 55, 3) := by decide +kernel
theorem dX10_values_177 : decode cX10_values 177 = .ok (.iload 4, 2) := by decide +kernel
theorem dX10_values_179 : decode cX10_values 179 = .ok (.iaload, 1) := by decide +kernel
theorem dX10_values_180 : decode cX10_values 180 = .ok (.iload_n 3, 1) := by decide +kernel
theorem dX10_values_181 : decode cX10_values 181 = .ok (.if_icmp .le 6, 3) := by decide +kernel
theorem dX10_values_184 : decode cX10_values 184 = .ok (.goto 35, 3) := by decide +kernel
theorem dX10_values_187 : decode cX10_values 187 = .ok (.aload_n 0, 1) := by decide +kernel
theorem dX10_values_188 : decode cX10_values 188 = .ok (.getfield 111, 3) := by decide +kernel
theorem dX10_values_191 : decode cX10_values 191 = .ok (.iconst 2, 1) := by decide +kernel
theorem dX10_values_192 : decode cX10_values 192 = .ok (.dup2, 1) := by decide +kernel
theorem dX10_values_193 : decode cX10_values 193 = .ok (.iaload, 1) := by decide +kernel
theorem dX10_values_194 : decode cX10_values 194 = .ok (.aload_n 0, 1) := by decide +kernel
theorem dX10_values_195 : decode cX10_values 195 = .ok (.getfield 49, 3) := by decide +kernel
theorem dX10_values_198 : decode cX10_values 198 = .ok (.iload 4, 2) := by decide +kernel
theorem dX10_values_200 : decode cX10_values 200 = .ok (.iaload, 1) := by decide +kernel
theorem dX10_values_201 : decode cX10_values 201 = .ok (.iadd, 1) := by decide +kernel
theorem dX10_values_202 : decode cX10_values 202 = .ok (.iastore, 1) := by decide +kernel
theorem dX10_values_203 : decode cX10_values 203 = .ok (.aload_n 0, 1) := by decide +kernel
theorem dX10_values_204 : decode cX10_values 204 = .ok (.getfield 111, 3) := by decide +kernel
theorem dX10_values_207 : decode cX10_values 207 = .ok (.iconst 3, 1) := by decide +kernel
theorem dX10_values_208 : decode cX10_values 208 = .ok (.dup2, 1) := by decide +kernel
theorem dX10_values_209 : decode cX10_values 209 = .ok (.iaload, 1) := by decide +kernel
theorem dX10_values_210 : decode cX10_values 210 = .ok (.aload_n 0, 1) := by decide +kernel
theorem dX10_values_211 : decode cX10_values 211 = .ok (.getfield 52, 3) := by decide +kernel
theorem dX10_values_214 : decode cX10_values 214 = .ok (.iload 4, 2) := by decide +kernel
theorem dX10_values_216 : decode cX10_values 216 = .ok (.iaload, 1) := by decide +kernel
theorem dX10_values_217 : decode cX10_values 217 = .ok (.iadd, 1) := by decide +kernel
theorem dX10_values_218 : decode cX10_values 218 = .ok (.iastore, 1) := by decide +kernel
theorem dX10_values_219 : decode cX10_values 219 = .ok (.iinc 4 1, 3) := by decide +kernel
theorem dX10_values_222 : decode cX10_values 222 = .ok (.goto (-80), 3) := by decide +kernel
theorem dX10_values_225 : decode cX10_values 225 = .ok (.iconst (-1), 1) := by decide +kernel
theorem dX10_values_226 : decode cX10_values 226 = .ok (.istore 4, 2) := by decide +kernel
theorem dX10_values_228 : decode cX10_values 228 = .ok (.iconst 0, 1) := by decide +kernel
theorem dX10_values_229 : decode cX10_values 229 = .ok (.istore 5, 2) := by decide +kernel
theorem dX10_values_231 : decode cX10_values 231 = .ok (.iload 5, 2) := by decide +kernel
theorem dX10_values_233 : decode cX10_values 233 = .ok (.aload_n 0, 1) := by decide +kernel
theorem dX10_values_234 : decode cX10_values 234 = .ok (.getfield 161, 3) := by decide +kernel
theorem dX10_values_237 : decode cX10_values 237 = .ok (.if_icmp .ge 71, 3) := by decide +kernel
theorem dX10_values_240 : decode cX10_values 240 = .ok (.aload_n 0, 1) := by decide +kernel
theorem dX10_values_241 : decode cX10_values 241 = .ok (.getfield 74, 3) := by decide +kernel
theorem dX10_values_244 : decode cX10_values 244 = .ok (.iload 5, 2) := by decide +kernel
theorem dX10_values_246 : decode cX10_values 246 = .ok (.iaload, 1) := by decide +kernel
theorem dX10_values_247 : decode cX10_values 247 = .ok (.iload_n 1, 1) := by decide +kernel
theorem dX10_values_248 : decode cX10_values 248 = .ok (.if_icmp .ne 54, 3) := by decide +kernel
theorem dX10_values_251 : decode cX10_values 251 = .ok (.aload_n 0, 1) := by decide +kernel
theorem dX10_values_252 : decode cX10_values 252 = .ok (.getfield 77, 3) := by decide +kernel
theorem dX10_values_255 : decode cX10_values 255 = .ok (.iload 5, 2) := by decide +kernel
theorem dX10_values_257 : decode cX10_values 257 = .ok (.iaload, 1) := by decide +kernel
theorem dX10_values_258 : decode cX10_values 258 = .ok (.iconst (-1), 1) := by decide +kernel
theorem dX10_values_259 : decode cX10_values 259 = .ok (.if_icmp .eq 43, 3) := by decide +kernel
theorem dX10_values_262 : decode cX10_values 262 = .ok (.aload_n 0, 1) := by decide +kernel
theorem dX10_values_263 : decode cX10_values 263 = .ok (.getfield 83, 3) := by decide +kernel
theorem dX10_values_266 : decode cX10_values 266 = .ok (.iload 5, 2) := by decide +kernel
theorem dX10_values_268 : decode cX10_values 268 = .ok (.iaload, 1) := by decide +kernel
theorem dX10_values_269 : decode cX10_values 269 = .ok (.iconst (-1), 1) := by decide +kernel
theorem dX10_values_270 : decode cX10_values 270 = .ok (.if_icmp .ne 32, 3) := by decide +kernel
theorem dX10_values_273 : decode cX10_values 273 = .ok (.aload_n 0, 1) := by decide +kernel
theorem dX10_values_274 : decode cX10_values 274 = .ok (.getfield 77, 3) := by decide +kernel
theorem dX10_values_277 : decode cX10_values 277 = .ok (.iload 5, 2) := by decide +kernel
theorem dX10_values_279 : decode cX10_values 279 = .ok (.iaload, 1) := by decide +kernel
theorem dX10_values_280 : decode cX10_values 280 = .ok (.iload_n 2, 1) := by decide +kernel
theorem dX10_values_281 : decode cX10_values 281 = .ok (.if_icmp .gt 21, 3) := by decide +kernel
theorem dX10_values_284 : decode cX10_values 284 = .ok (.aload_n 0, 1) := by decide +kernel
theorem dX10_values_285 : decode cX10_values 285 = .ok (.getfield 77, 3) := by decide +kernel
theorem dX10_values_288 : decode cX10_values 288 = .ok (.iload 5, 2) := by decide +kernel
theorem dX10_values_290 : decode cX10_values 290 = .ok (.iaload, 1) := by decide +kernel
theorem dX10_values_291 : decode cX10_values 291 = .ok (.iload_n 3, 1) := by decide +kernel
theorem dX10_values_292 : decode cX10_values 292 = .ok (.if_icmp .le 6, 3) := by decide +kernel
theorem dX10_values_295 : decode cX10_values 295 = .ok (.goto 7, 3) := by decide +kernel
theorem dX10_values_298 : decode cX10_values 298 = .ok (.iload 5, 2) := by decide +kernel
theorem dX10_values_300 : decode cX10_values 300 = .ok (.istore 4, 2) := by decide +kernel
theorem dX10_values_302 : decode cX10_values 302 = .ok (.iinc 5 1, 3) := by decide +kernel
theorem dX10_values_305 : decode cX10_values 305 = .ok (.goto (-74), 3) := by decide +kernel
theorem dX10_values_308 : decode cX10_values 308 = .ok (.aload_n 0, 1) := by decide +kernel
theorem dX10_values_309 : decode cX10_values 309 = .ok (.getfield 111, 3) := by decide +kernel
theorem dX10_values_312 : decode cX10_values 312 = .ok (.iconst 4, 1) := by decide +kernel
theorem dX10_values_313 : decode cX10_values 313 = .ok (.iload 4, 2) := by decide +kernel
theorem dX10_values_315 : decode cX10_values 315 = .ok (.iconst (-1), 1) := by decide +kernel
theorem dX10_values_316 : decode cX10_values 316 = .ok (.if_icmp .ne 7, 3) := by decide +kernel
theorem dX10_values_319 : decode cX10_values 319 = .ok (.iconst 0, 1) := by decide +kernel
theorem dX10_values_320 : decode cX10_values 320 = .ok (.goto 10, 3) := by decide +kernel
theorem dX10_values_323 : decode cX10_values 323 = .ok (.aload_n 0, 1) := by decide +kernel
theorem dX10_values_324 : decode cX10_values 324 = .ok (.getfield 80, 3) := by decide +kernel
theorem dX10_values_327 : decode cX10_values 327 = .ok (.iload 4, 2) := by decide +kernel
theorem dX10_values_329 : decode cX10_values 329 = .ok (.iaload, 1) := by decide +kernel
theorem dX10_values_330 : decode cX10_values 330 = .ok (.iastore, 1) := by decide +kernel
theorem dX10_values_331 : decode cX10_values 331 = .ok (.aload_n 0, 1) := by decide +kernel
theorem dX10_values_332 : decode cX10_values 332 = .ok (.getfield 111, 3) := by decide +kernel
theorem dX10_values_335 : decode cX10_values 335 = .ok (.iconst 5, 1) := by decide +kernel
theorem dX10_values_336 : decode cX10_values 336 = .ok (.aload_n 0, 1) := by decide +kernel
theorem dX10_values_337 : decode cX10_values 337 = .ok (.aload_n 0, 1) := by decide +kernel
theorem dX10_values_338 : decode cX10_values 338 = .ok (.getfield 9, 3) := by decide +kernel
theorem dX10_values_341 : decode cX10_values 341 = .ok (.iload_n 1, 1) := by decide +kernel
theorem dX10_values_342 : decode cX10_values 342 = .ok (.iaload, 1) := by decide +kernel
theorem dX10_values_343 : decode cX10_values 343 = .ok (.iload_n 2, 1) := by decide +kernel
theorem dX10_values_344 : decode cX10_values 344 = .ok (.iload_n 3, 1) := by decide +kernel
theorem dX10_values_345 : decode cX10_values 345 = .ok (.invokevirtual 164, 3) := by decide +kernel
theorem dX10_values_348 : decode cX10_values 348 = .ok (.ifCond .ne 18, 3) := by decide +kernel
theorem dX10_values_351 : decode cX10_values 351 = .ok (.aload_n 0, 1) := by decide +kernel
theorem dX10_values_352 : decode cX10_values 352 = .ok (.aload_n 0, 1) := by decide +kernel
theorem dX10_values_353 : decode cX10_values 353 = .ok (.getfield 13, 3) := by decide +kernel
theorem dX10_values_356 : decode cX10_values 356 = .ok (.iload_n 1, 1) := by decide +kernel
theorem dX10_values_357 : decode cX10_values 357 = .ok (.iaload, 1) := by decide +kernel
theorem dX10_values_358 : decode cX10_values 358 = .ok (.iload_n 2, 1) := by decide +kernel
theorem dX10_values_359 : decode cX10_values 359 = .ok (.iload_n 3, 1) := by decide +kernel
theorem dX10_values_360 : decode cX10_values 360 = .ok (.invokevirtual 164, 3) := by decide +kernel
theorem dX10_values_363 : decode cX10_values 363 = .ok (.ifCond .eq 7, 3) := by decide +kernel
theorem dX10_values_366 : decode cX10_values 366 = .ok (.iconst 1, 1) := by decide +kernel
theorem dX10_values_367 : decode cX10_values 367 = .ok (.goto 4, 3) := by decide +kernel
theorem dX10_values_370 : decode cX10_values 370 = .ok (.iconst 0, 1) := by decide +kernel
theorem dX10_values_371 : decode cX10_values 371 = .ok (.iastore, 1) := by decide +kernel
theorem dX10_values_372 : decode cX10_values 372 = .ok (.return_, 1) := by decide +kernel
theorem dX10_wasMaster_0 : decode cX10_wasMaster 0 = .ok (.iload_n 1, 1) := by decide +kernel
theorem dX10_wasMaster_1 : decode cX10_wasMaster 1 = .ok (.iconst (-1), 1) := by decide +kernel
theorem dX10_wasMaster_2 : decode cX10_wasMaster 2 = .ok (.if_icmp .eq 37, 3) := by decide +kernel
theorem dX10_wasMaster_5 : decode cX10_wasMaster 5 = .ok (.aload_n 0, 1) := by decide +kernel
theorem dX10_wasMaster_6 : decode cX10_wasMaster 6 = .ok (.getfield 16, 3) := by decide +kernel
theorem dX10_wasMaster_9 : decode cX10_wasMaster 9 = .ok (.iload_n 1, 1) := by decide +kernel
theorem dX10_wasMaster_10 : decode cX10_wasMaster 10 = .ok (.iaload, 1) := by decide +kernel
theorem dX10_wasMaster_11 : decode cX10_wasMaster 11 = .ok (.iconst (-1), 1) := by decide +kernel
theorem dX10_wasMaster_12 : decode cX10_wasMaster 12 = .ok (.if_icmp .eq 27, 3) := by decide +kernel
theorem dX10_wasMaster_15 : decode cX10_wasMaster 15 = .ok (.aload_n 0, 1) := by decide +kernel
theorem dX10_wasMaster_16 : decode cX10_wasMaster 16 = .ok (.getfield 16, 3) := by decide +kernel
theorem dX10_wasMaster_19 : decode cX10_wasMaster 19 = .ok (.iload_n 1, 1) := by decide +kernel
theorem dX10_wasMaster_20 : decode cX10_wasMaster 20 = .ok (.iaload, 1) := by decide +kernel
theorem dX10_wasMaster_21 : decode cX10_wasMaster 21 = .ok (.iload_n 2, 1) := by decide +kernel
theorem dX10_wasMaster_22 : decode cX10_wasMaster 22 = .ok (.if_icmp .gt 17, 3) := by decide +kernel
theorem dX10_wasMaster_25 : decode cX10_wasMaster 25 = .ok (.aload_n 0, 1) := by decide +kernel
theorem dX10_wasMaster_26 : decode cX10_wasMaster 26 = .ok (.getfield 16, 3) := by decide +kernel
theorem dX10_wasMaster_29 : decode cX10_wasMaster 29 = .ok (.iload_n 1, 1) := by decide +kernel
theorem dX10_wasMaster_30 : decode cX10_wasMaster 30 = .ok (.iaload, 1) := by decide +kernel
theorem dX10_wasMaster_31 : decode cX10_wasMaster 31 = .ok (.iload_n 3, 1) := by decide +kernel
theorem dX10_wasMaster_32 : decode cX10_wasMaster 32 = .ok (.if_icmp .gt 7, 3) := by decide +kernel
theorem dX10_wasMaster_35 : decode cX10_wasMaster 35 = .ok (.iconst 1, 1) := by decide +kernel
theorem dX10_wasMaster_36 : decode cX10_wasMaster 36 = .ok (.goto 4, 3) := by decide +kernel
theorem dX10_wasMaster_39 : decode cX10_wasMaster 39 = .ok (.iconst 0, 1) := by decide +kernel
theorem dX10_wasMaster_40 : decode cX10_wasMaster 40 = .ok (.ireturn, 1) := by decide +kernel
theorem dX10_isAsked_0 : decode cX10_isAsked 0 = .ok (.aload_n 0, 1) := by decide +kernel
theorem dX10_isAsked_1 : decode cX10_isAsked 1 = .ok (.iconst 0, 1) := by decide +kernel
theorem dX10_isAsked_2 : decode cX10_isAsked 2 = .ok (.putfield 117, 3) := by decide +kernel
theorem dX10_isAsked_5 : decode cX10_isAsked 5 = .ok (.aload_n 0, 1) := by decide +kernel
theorem dX10_isAsked_6 : decode cX10_isAsked 6 = .ok (.iload_n 1, 1) := by decide +kernel
theorem dX10_isAsked_7 : decode cX10_isAsked 7 = .ok (.invokevirtual 124, 3) := by decide +kernel
theorem dX10_isAsked_10 : decode cX10_isAsked 10 = .ok (.ifCond .eq 30, 3) := by decide +kernel
theorem dX10_isAsked_13 : decode cX10_isAsked 13 = .ok (.iload_n 2, 1) := by decide +kernel
theorem dX10_isAsked_14 : decode cX10_isAsked 14 = .ok (.iconst 0, 1) := by decide +kernel
theorem dX10_isAsked_15 : decode cX10_isAsked 15 = .ok (.sipush 20000, 3) := by decide +kernel
theorem dX10_isAsked_18 : decode cX10_isAsked 18 = .ok (.invokestatic 137, 3) := by decide +kernel
theorem dX10_isAsked_21 : decode cX10_isAsked 21 = .ok (.ifCond .eq 19, 3) := by decide +kernel
theorem dX10_isAsked_24 : decode cX10_isAsked 24 = .ok (.iload_n 3, 1) := by decide +kernel
theorem dX10_isAsked_25 : decode cX10_isAsked 25 = .ok (.iconst 0, 1) := by decide +kernel
theorem dX10_isAsked_26 : decode cX10_isAsked 26 = .ok (.aload_n 0, 1) := by decide +kernel
theorem dX10_isAsked_27 : decode cX10_isAsked 27 = .ok (.getfield 134, 3) := by decide +kernel
theorem dX10_isAsked_30 : decode cX10_isAsked 30 = .ok (.invokestatic 137, 3) := by decide +kernel
theorem dX10_isAsked_33 : decode cX10_isAsked 33 = .ok (.ifCond .eq 7, 3) := by decide +kernel
theorem dX10_isAsked_36 : decode cX10_isAsked 36 = .ok (.iconst 1, 1) := by decide +kernel
theorem dX10_isAsked_37 : decode cX10_isAsked 37 = .ok (.goto 4, 3) := by decide +kernel
theorem dX10_isAsked_40 : decode cX10_isAsked 40 = .ok (.iconst 0, 1) := by decide +kernel
theorem dX10_isAsked_41 : decode cX10_isAsked 41 = .ok (.ireturn, 1) := by decide +kernel
theorem dX10_value_0 : decode cX10_value 0 = .ok (.aload_n 0, 1) := by decide +kernel
theorem dX10_value_1 : decode cX10_value 1 = .ok (.iload_n 1, 1) := by decide +kernel
theorem dX10_value_2 : decode cX10_value 2 = .ok (.iload_n 3, 1) := by decide +kernel
theorem dX10_value_3 : decode cX10_value 3 = .ok (.iload 4, 2) := by decide +kernel
theorem dX10_value_5 : decode cX10_value 5 = .ok (.invokevirtual 167, 3) := by decide +kernel
theorem dX10_value_8 : decode cX10_value 8 = .ok (.ifCond .eq 13, 3) := by decide +kernel
theorem dX10_value_11 : decode cX10_value 11 = .ok (.iload_n 2, 1) := by decide +kernel
theorem dX10_value_12 : decode cX10_value 12 = .ok (.iconst 0, 1) := by decide +kernel
theorem dX10_value_13 : decode cX10_value 13 = .ok (.bipush 6, 2) := by decide +kernel
theorem dX10_value_15 : decode cX10_value 15 = .ok (.invokestatic 137, 3) := by decide +kernel
theorem dX10_value_18 : decode cX10_value 18 = .ok (.ifCond .ne 5, 3) := by decide +kernel
theorem dX10_value_21 : decode cX10_value 21 = .ok (.iconst (-1), 1) := by decide +kernel
theorem dX10_value_22 : decode cX10_value 22 = .ok (.ireturn, 1) := by decide +kernel
theorem dX10_value_23 : decode cX10_value 23 = .ok (.aload_n 0, 1) := by decide +kernel
theorem dX10_value_24 : decode cX10_value 24 = .ok (.iload_n 1, 1) := by decide +kernel
theorem dX10_value_25 : decode cX10_value 25 = .ok (.iload_n 3, 1) := by decide +kernel
theorem dX10_value_26 : decode cX10_value 26 = .ok (.iload 4, 2) := by decide +kernel
theorem dX10_value_28 : decode cX10_value 28 = .ok (.invokevirtual 170, 3) := by decide +kernel
theorem dX10_value_31 : decode cX10_value 31 = .ok (.aload_n 0, 1) := by decide +kernel
theorem dX10_value_32 : decode cX10_value 32 = .ok (.getfield 111, 3) := by decide +kernel
theorem dX10_value_35 : decode cX10_value 35 = .ok (.iload_n 2, 1) := by decide +kernel
theorem dX10_value_36 : decode cX10_value 36 = .ok (.iaload, 1) := by decide +kernel
theorem dX10_value_37 : decode cX10_value 37 = .ok (.ireturn, 1) := by decide +kernel
theorem dX10_look_0 : decode cX10_look 0 = .ok (.aload_n 0, 1) := by decide +kernel
theorem dX10_look_1 : decode cX10_look 1 = .ok (.getfield 173, 3) := by decide +kernel
theorem dX10_look_4 : decode cX10_look 4 = .ok (.aload_n 0, 1) := by decide +kernel
theorem dX10_look_5 : decode cX10_look 5 = .ok (.getfield 176, 3) := by decide +kernel
theorem dX10_look_8 : decode cX10_look 8 = .ok (.if_icmp .ge 35, 3) := by decide +kernel
theorem dX10_look_11 : decode cX10_look 11 = .ok (.aload_n 0, 1) := by decide +kernel
theorem dX10_look_12 : decode cX10_look 12 = .ok (.getfield 114, 3) := by decide +kernel
theorem dX10_look_15 : decode cX10_look 15 = .ok (.aload_n 0, 1) := by decide +kernel
theorem dX10_look_16 : decode cX10_look 16 = .ok (.getfield 179, 3) := by decide +kernel
theorem dX10_look_19 : decode cX10_look 19 = .ok (.aload_n 0, 1) := by decide +kernel
theorem dX10_look_20 : decode cX10_look 20 = .ok (.getfield 173, 3) := by decide +kernel
theorem dX10_look_23 : decode cX10_look 23 = .ok (.iadd, 1) := by decide +kernel
theorem dX10_look_24 : decode cX10_look 24 = .ok (.baload, 1) := by decide +kernel
theorem dX10_look_25 : decode cX10_look 25 = .ok (.bipush 32, 2) := by decide +kernel
theorem dX10_look_27 : decode cX10_look 27 = .ok (.if_icmp .ne 16, 3) := by decide +kernel
theorem dX10_look_30 : decode cX10_look 30 = .ok (.aload_n 0, 1) := by decide +kernel
theorem dX10_look_31 : decode cX10_look 31 = .ok (.dup, 1) := by decide +kernel
theorem dX10_look_32 : decode cX10_look 32 = .ok (.getfield 173, 3) := by decide +kernel
theorem dX10_look_35 : decode cX10_look 35 = .ok (.iconst 1, 1) := by decide +kernel
theorem dX10_look_36 : decode cX10_look 36 = .ok (.iadd, 1) := by decide +kernel
theorem dX10_look_37 : decode cX10_look 37 = .ok (.putfield 173, 3) := by decide +kernel
theorem dX10_look_40 : decode cX10_look 40 = .ok (.goto (-40), 3) := by decide +kernel
theorem dX10_look_43 : decode cX10_look 43 = .ok (.aload_n 0, 1) := by decide +kernel
theorem dX10_look_44 : decode cX10_look 44 = .ok (.getfield 173, 3) := by decide +kernel
theorem dX10_look_47 : decode cX10_look 47 = .ok (.aload_n 0, 1) := by decide +kernel
theorem dX10_look_48 : decode cX10_look 48 = .ok (.getfield 176, 3) := by decide +kernel
theorem dX10_look_51 : decode cX10_look 51 = .ok (.if_icmp .ge 24, 3) := by decide +kernel
theorem dX10_look_54 : decode cX10_look 54 = .ok (.aload_n 0, 1) := by decide +kernel
theorem dX10_look_55 : decode cX10_look 55 = .ok (.getfield 114, 3) := by decide +kernel
theorem dX10_look_58 : decode cX10_look 58 = .ok (.aload_n 0, 1) := by decide +kernel
theorem dX10_look_59 : decode cX10_look 59 = .ok (.getfield 179, 3) := by decide +kernel
theorem dX10_look_62 : decode cX10_look 62 = .ok (.aload_n 0, 1) := by decide +kernel
theorem dX10_look_63 : decode cX10_look 63 = .ok (.getfield 173, 3) := by decide +kernel
theorem dX10_look_66 : decode cX10_look 66 = .ok (.iadd, 1) := by decide +kernel
theorem dX10_look_67 : decode cX10_look 67 = .ok (.baload, 1) := by decide +kernel
theorem dX10_look_68 : decode cX10_look 68 = .ok (.sipush 255, 3) := by decide +kernel
theorem dX10_look_71 : decode cX10_look 71 = .ok (.iand, 1) := by decide +kernel
theorem dX10_look_72 : decode cX10_look 72 = .ok (.goto 4, 3) := by decide +kernel
theorem dX10_look_75 : decode cX10_look 75 = .ok (.iconst (-1), 1) := by decide +kernel
theorem dX10_look_76 : decode cX10_look 76 = .ok (.ireturn, 1) := by decide +kernel
theorem dX10_wrong_0 : decode cX10_wrong 0 = .ok (.aload_n 0, 1) := by decide +kernel
theorem dX10_wrong_1 : decode cX10_wrong 1 = .ok (.getfield 182, 3) := by decide +kernel
theorem dX10_wrong_4 : decode cX10_wrong 4 = .ok (.iconst (-1), 1) := by decide +kernel
theorem dX10_wrong_5 : decode cX10_wrong 5 = .ok (.if_icmp .ne 11, 3) := by decide +kernel
theorem dX10_wrong_8 : decode cX10_wrong 8 = .ok (.aload_n 0, 1) := by decide +kernel
theorem dX10_wrong_9 : decode cX10_wrong 9 = .ok (.aload_n 0, 1) := by decide +kernel
theorem dX10_wrong_10 : decode cX10_wrong 10 = .ok (.getfield 173, 3) := by decide +kernel
theorem dX10_wrong_13 : decode cX10_wrong 13 = .ok (.putfield 182, 3) := by decide +kernel
theorem dX10_wrong_16 : decode cX10_wrong 16 = .ok (.return_, 1) := by decide +kernel
theorem dX10_unit_0 : decode cX10_unit 0 = .ok (.aload_n 0, 1) := by decide +kernel
theorem dX10_unit_1 : decode cX10_unit 1 = .ok (.invokevirtual 185, 3) := by decide +kernel
theorem dX10_unit_4 : decode cX10_unit 4 = .ok (.istore_n 1, 1) := by decide +kernel
theorem dX10_unit_5 : decode cX10_unit 5 = .ok (.iload_n 1, 1) := by decide +kernel
theorem dX10_unit_6 : decode cX10_unit 6 = .ok (.bipush 40, 2) := by decide +kernel
theorem dX10_unit_8 : decode cX10_unit 8 = .ok (.if_icmp .ne 90, 3) := by decide +kernel
theorem dX10_unit_11 : decode cX10_unit 11 = .ok (.aload_n 0, 1) := by decide +kernel
theorem dX10_unit_12 : decode cX10_unit 12 = .ok (.getfield 189, 3) := by decide +kernel
theorem dX10_unit_15 : decode cX10_unit 15 = .ok (.bipush 8, 2) := by decide +kernel
theorem dX10_unit_17 : decode cX10_unit 17 = .ok (.if_icmp .ne 9, 3) := by decide +kernel
theorem dX10_unit_20 : decode cX10_unit 20 = .ok (.aload_n 0, 1) := by decide +kernel
theorem dX10_unit_21 : decode cX10_unit 21 = .ok (.invokevirtual 192, 3) := by decide +kernel
theorem dX10_unit_24 : decode cX10_unit 24 = .ok (.iconst 0, 1) := by decide +kernel
theorem dX10_unit_25 : decode cX10_unit 25 = .ok (.ireturn, 1) := by decide +kernel
theorem dX10_unit_26 : decode cX10_unit 26 = .ok (.aload_n 0, 1) := by decide +kernel
theorem dX10_unit_27 : decode cX10_unit 27 = .ok (.dup, 1) := by decide +kernel
theorem dX10_unit_28 : decode cX10_unit 28 = .ok (.getfield 189, 3) := by decide +kernel
theorem dX10_unit_31 : decode cX10_unit 31 = .ok (.iconst 1, 1) := by decide +kernel
theorem dX10_unit_32 : decode cX10_unit 32 = .ok (.iadd, 1) := by decide +kernel
theorem dX10_unit_33 : decode cX10_unit 33 = .ok (.putfield 189, 3) := by decide +kernel
theorem dX10_unit_36 : decode cX10_unit 36 = .ok (.aload_n 0, 1) := by decide +kernel
theorem dX10_unit_37 : decode cX10_unit 37 = .ok (.dup, 1) := by decide +kernel
theorem dX10_unit_38 : decode cX10_unit 38 = .ok (.getfield 173, 3) := by decide +kernel
theorem dX10_unit_41 : decode cX10_unit 41 = .ok (.iconst 1, 1) := by decide +kernel
theorem dX10_unit_42 : decode cX10_unit 42 = .ok (.iadd, 1) := by decide +kernel
theorem dX10_unit_43 : decode cX10_unit 43 = .ok (.putfield 173, 3) := by decide +kernel
theorem dX10_unit_46 : decode cX10_unit 46 = .ok (.aload_n 0, 1) := by decide +kernel
theorem dX10_unit_47 : decode cX10_unit 47 = .ok (.invokevirtual 195, 3) := by decide +kernel
theorem dX10_unit_50 : decode cX10_unit 50 = .ok (.istore_n 2, 1) := by decide +kernel
theorem dX10_unit_51 : decode cX10_unit 51 = .ok (.aload_n 0, 1) := by decide +kernel
theorem dX10_unit_52 : decode cX10_unit 52 = .ok (.getfield 182, 3) := by decide +kernel
theorem dX10_unit_55 : decode cX10_unit 55 = .ok (.iconst (-1), 1) := by decide +kernel
theorem dX10_unit_56 : decode cX10_unit 56 = .ok (.if_icmp .eq 5, 3) := by decide +kernel
theorem dX10_unit_59 : decode cX10_unit 59 = .ok (.iconst 0, 1) := by decide +kernel
theorem dX10_unit_60 : decode cX10_unit 60 = .ok (.ireturn, 1) := by decide +kernel
theorem dX10_unit_61 : decode cX10_unit 61 = .ok (.aload_n 0, 1) := by decide +kernel
theorem dX10_unit_62 : decode cX10_unit 62 = .ok (.invokevirtual 185, 3) := by decide +kernel
theorem dX10_unit_65 : decode cX10_unit 65 = .ok (.bipush 41, 2) := by decide +kernel
theorem dX10_unit_67 : decode cX10_unit 67 = .ok (.if_icmp .eq 9, 3) := by decide +kernel
theorem dX10_unit_70 : decode cX10_unit 70 = .ok (.aload_n 0, 1) := by decide +kernel
theorem dX10_unit_71 : decode cX10_unit 71 = .ok (.invokevirtual 192, 3) := by decide +kernel
theorem dX10_unit_74 : decode cX10_unit 74 = .ok (.iconst 0, 1) := by decide +kernel
theorem dX10_unit_75 : decode cX10_unit 75 = .ok (.ireturn, 1) := by decide +kernel
theorem dX10_unit_76 : decode cX10_unit 76 = .ok (.aload_n 0, 1) := by decide +kernel
theorem dX10_unit_77 : decode cX10_unit 77 = .ok (.dup, 1) := by decide +kernel
theorem dX10_unit_78 : decode cX10_unit 78 = .ok (.getfield 173, 3) := by decide +kernel
theorem dX10_unit_81 : decode cX10_unit 81 = .ok (.iconst 1, 1) := by decide +kernel
theorem dX10_unit_82 : decode cX10_unit 82 = .ok (.iadd, 1) := by decide +kernel
theorem dX10_unit_83 : decode cX10_unit 83 = .ok (.putfield 173, 3) := by decide +kernel
theorem dX10_unit_86 : decode cX10_unit 86 = .ok (.aload_n 0, 1) := by decide +kernel
theorem dX10_unit_87 : decode cX10_unit 87 = .ok (.dup, 1) := by decide +kernel
theorem dX10_unit_88 : decode cX10_unit 88 = .ok (.getfield 189, 3) := by decide +kernel
theorem dX10_unit_91 : decode cX10_unit 91 = .ok (.iconst 1, 1) := by decide +kernel
theorem dX10_unit_92 : decode cX10_unit 92 = .ok (.isub, 1) := by decide +kernel
theorem dX10_unit_93 : decode cX10_unit 93 = .ok (.putfield 189, 3) := by decide +kernel
theorem dX10_unit_96 : decode cX10_unit 96 = .ok (.iload_n 2, 1) := by decide +kernel
theorem dX10_unit_97 : decode cX10_unit 97 = .ok (.ireturn, 1) := by decide +kernel
theorem dX10_unit_98 : decode cX10_unit 98 = .ok (.iload_n 1, 1) := by decide +kernel
theorem dX10_unit_99 : decode cX10_unit 99 = .ok (.bipush 100, 2) := by decide +kernel
theorem dX10_unit_101 : decode cX10_unit 101 = .ok (.if_icmp .ne 12, 3) := by decide +kernel
theorem dX10_unit_104 : decode cX10_unit 104 = .ok (.aload_n 0, 1) := by decide +kernel
theorem dX10_unit_105 : decode cX10_unit 105 = .ok (.getfield 111, 3) := by decide +kernel
theorem dX10_unit_108 : decode cX10_unit 108 = .ok (.iconst 0, 1) := by decide +kernel
theorem dX10_unit_109 : decode cX10_unit 109 = .ok (.iaload, 1) := by decide +kernel
theorem dX10_unit_110 : decode cX10_unit 110 = .ok (.goto 98, 3) := by decide +kernel
theorem dX10_unit_113 : decode cX10_unit 113 = .ok (.iload_n 1, 1) := by decide +kernel
theorem dX10_unit_114 : decode cX10_unit 114 = .ok (.bipush 121, 2) := by decide +kernel
theorem dX10_unit_116 : decode cX10_unit 116 = .ok (.if_icmp .ne 16, 3) := by decide +kernel
theorem dX10_unit_119 : decode cX10_unit 119 = .ok (.aload_n 0, 1) := by decide +kernel
theorem dX10_unit_120 : decode cX10_unit 120 = .ok (.getfield 111, 3) := by decide +kernel
theorem dX10_unit_123 : decode cX10_unit 123 = .ok (.iconst 0, 1) := by decide +kernel
theorem dX10_unit_124 : decode cX10_unit 124 = .ok (.iaload, 1) := by decide +kernel
theorem dX10_unit_125 : decode cX10_unit 125 = .ok (.sipush 360, 3) := by decide +kernel
theorem dX10_unit_128 : decode cX10_unit 128 = .ok (.idiv, 1) := by decide +kernel
theorem dX10_unit_129 : decode cX10_unit 129 = .ok (.goto 79, 3) := by decide +kernel
theorem dX10_unit_132 : decode cX10_unit 132 = .ok (.iload_n 1, 1) := by decide +kernel
theorem dX10_unit_133 : decode cX10_unit 133 = .ok (.bipush 119, 2) := by decide +kernel
theorem dX10_unit_135 : decode cX10_unit 135 = .ok (.if_icmp .ne 12, 3) := by decide +kernel
theorem dX10_unit_138 : decode cX10_unit 138 = .ok (.aload_n 0, 1) := by decide +kernel
theorem dX10_unit_139 : decode cX10_unit 139 = .ok (.getfield 111, 3) := by decide +kernel
theorem dX10_unit_142 : decode cX10_unit 142 = .ok (.iconst 1, 1) := by decide +kernel
theorem dX10_unit_143 : decode cX10_unit 143 = .ok (.iaload, 1) := by decide +kernel
theorem dX10_unit_144 : decode cX10_unit 144 = .ok (.goto 64, 3) := by decide +kernel
theorem dX10_unit_147 : decode cX10_unit 147 = .ok (.iload_n 1, 1) := by decide +kernel
theorem dX10_unit_148 : decode cX10_unit 148 = .ok (.bipush 108, 2) := by decide +kernel
theorem dX10_unit_150 : decode cX10_unit 150 = .ok (.if_icmp .ne 12, 3) := by decide +kernel
theorem dX10_unit_153 : decode cX10_unit 153 = .ok (.aload_n 0, 1) := by decide +kernel
theorem dX10_unit_154 : decode cX10_unit 154 = .ok (.getfield 111, 3) := by decide +kernel
theorem dX10_unit_157 : decode cX10_unit 157 = .ok (.iconst 2, 1) := by decide +kernel
theorem dX10_unit_158 : decode cX10_unit 158 = .ok (.iaload, 1) := by decide +kernel
theorem dX10_unit_159 : decode cX10_unit 159 = .ok (.goto 49, 3) := by decide +kernel
theorem dX10_unit_162 : decode cX10_unit 162 = .ok (.iload_n 1, 1) := by decide +kernel
theorem dX10_unit_163 : decode cX10_unit 163 = .ok (.bipush 102, 2) := by decide +kernel
theorem dX10_unit_165 : decode cX10_unit 165 = .ok (.if_icmp .ne 12, 3) := by decide +kernel
theorem dX10_unit_168 : decode cX10_unit 168 = .ok (.aload_n 0, 1) := by decide +kernel
theorem dX10_unit_169 : decode cX10_unit 169 = .ok (.getfield 111, 3) := by decide +kernel
theorem dX10_unit_172 : decode cX10_unit 172 = .ok (.iconst 3, 1) := by decide +kernel
theorem dX10_unit_173 : decode cX10_unit 173 = .ok (.iaload, 1) := by decide +kernel
theorem dX10_unit_174 : decode cX10_unit 174 = .ok (.goto 34, 3) := by decide +kernel
theorem dX10_unit_177 : decode cX10_unit 177 = .ok (.iload_n 1, 1) := by decide +kernel
theorem dX10_unit_178 : decode cX10_unit 178 = .ok (.bipush 109, 2) := by decide +kernel
theorem dX10_unit_180 : decode cX10_unit 180 = .ok (.if_icmp .ne 12, 3) := by decide +kernel
theorem dX10_unit_183 : decode cX10_unit 183 = .ok (.aload_n 0, 1) := by decide +kernel
theorem dX10_unit_184 : decode cX10_unit 184 = .ok (.getfield 111, 3) := by decide +kernel
theorem dX10_unit_187 : decode cX10_unit 187 = .ok (.iconst 4, 1) := by decide +kernel
theorem dX10_unit_188 : decode cX10_unit 188 = .ok (.iaload, 1) := by decide +kernel
theorem dX10_unit_189 : decode cX10_unit 189 = .ok (.goto 19, 3) := by decide +kernel
theorem dX10_unit_192 : decode cX10_unit 192 = .ok (.iload_n 1, 1) := by decide +kernel
theorem dX10_unit_193 : decode cX10_unit 193 = .ok (.bipush 107, 2) := by decide +kernel
theorem dX10_unit_195 : decode cX10_unit 195 = .ok (.if_icmp .ne 12, 3) := by decide +kernel
theorem dX10_unit_198 : decode cX10_unit 198 = .ok (.aload_n 0, 1) := by decide +kernel
theorem dX10_unit_199 : decode cX10_unit 199 = .ok (.getfield 111, 3) := by decide +kernel
theorem dX10_unit_202 : decode cX10_unit 202 = .ok (.iconst 5, 1) := by decide +kernel
theorem dX10_unit_203 : decode cX10_unit 203 = .ok (.iaload, 1) := by decide +kernel
theorem dX10_unit_204 : decode cX10_unit 204 = .ok (.goto 4, 3) := by decide +kernel
theorem dX10_unit_207 : decode cX10_unit 207 = .ok (.iconst (-1), 1) := by decide +kernel
theorem dX10_unit_208 : decode cX10_unit 208 = .ok (.istore_n 2, 1) := by decide +kernel
theorem dX10_unit_209 : decode cX10_unit 209 = .ok (.iload_n 2, 1) := by decide +kernel
theorem dX10_unit_210 : decode cX10_unit 210 = .ok (.iconst (-1), 1) := by decide +kernel
theorem dX10_unit_211 : decode cX10_unit 211 = .ok (.if_icmp .ne 9, 3) := by decide +kernel
theorem dX10_unit_214 : decode cX10_unit 214 = .ok (.aload_n 0, 1) := by decide +kernel
theorem dX10_unit_215 : decode cX10_unit 215 = .ok (.invokevirtual 192, 3) := by decide +kernel
theorem dX10_unit_218 : decode cX10_unit 218 = .ok (.iconst 0, 1) := by decide +kernel
theorem dX10_unit_219 : decode cX10_unit 219 = .ok (.ireturn, 1) := by decide +kernel
theorem dX10_unit_220 : decode cX10_unit 220 = .ok (.aload_n 0, 1) := by decide +kernel
theorem dX10_unit_221 : decode cX10_unit 221 = .ok (.dup, 1) := by decide +kernel
theorem dX10_unit_222 : decode cX10_unit 222 = .ok (.getfield 173, 3) := by decide +kernel
theorem dX10_unit_225 : decode cX10_unit 225 = .ok (.iconst 1, 1) := by decide +kernel
theorem dX10_unit_226 : decode cX10_unit 226 = .ok (.iadd, 1) := by decide +kernel
theorem dX10_unit_227 : decode cX10_unit 227 = .ok (.putfield 173, 3) := by decide +kernel
theorem dX10_unit_230 : decode cX10_unit 230 = .ok (.aload_n 0, 1) := by decide +kernel
theorem dX10_unit_231 : decode cX10_unit 231 = .ok (.invokevirtual 185, 3) := by decide +kernel
theorem dX10_unit_234 : decode cX10_unit 234 = .ok (.istore_n 3, 1) := by decide +kernel
theorem dX10_unit_235 : decode cX10_unit 235 = .ok (.iload_n 3, 1) := by decide +kernel
theorem dX10_unit_236 : decode cX10_unit 236 = .ok (.bipush 60, 2) := by decide +kernel
theorem dX10_unit_238 : decode cX10_unit 238 = .ok (.if_icmp .eq 21, 3) := by decide +kernel
theorem dX10_unit_241 : decode cX10_unit 241 = .ok (.iload_n 3, 1) := by decide +kernel
theorem dX10_unit_242 : decode cX10_unit 242 = .ok (.bipush 62, 2) := by decide +kernel
theorem dX10_unit_244 : decode cX10_unit 244 = .ok (.if_icmp .eq 15, 3) := by decide +kernel
theorem dX10_unit_247 : decode cX10_unit 247 = .ok (.iload_n 3, 1) := by decide +kernel
theorem dX10_unit_248 : decode cX10_unit 248 = .ok (.bipush 61, 2) := by decide +kernel
theorem dX10_unit_250 : decode cX10_unit 250 = .ok (.if_icmp .eq 9, 3) := by decide +kernel
theorem dX10_unit_253 : decode cX10_unit 253 = .ok (.aload_n 0, 1) := by decide +kernel
theorem dX10_unit_254 : decode cX10_unit 254 = .ok (.invokevirtual 192, 3) := by decide +kernel
theorem dX10_unit_257 : decode cX10_unit 257 = .ok (.iconst 0, 1) := by decide +kernel
theorem dX10_unit_258 : decode cX10_unit 258 = .ok (.ireturn, 1) := by decide +kernel
theorem dX10_unit_259 : decode cX10_unit 259 = .ok (.aload_n 0, 1) := by decide +kernel
theorem dX10_unit_260 : decode cX10_unit 260 = .ok (.dup, 1) := by decide +kernel
theorem dX10_unit_261 : decode cX10_unit 261 = .ok (.getfield 173, 3) := by decide +kernel
theorem dX10_unit_264 : decode cX10_unit 264 = .ok (.iconst 1, 1) := by decide +kernel
theorem dX10_unit_265 : decode cX10_unit 265 = .ok (.iadd, 1) := by decide +kernel
theorem dX10_unit_266 : decode cX10_unit 266 = .ok (.putfield 173, 3) := by decide +kernel
theorem dX10_unit_269 : decode cX10_unit 269 = .ok (.aload_n 0, 1) := by decide +kernel
theorem dX10_unit_270 : decode cX10_unit 270 = .ok (.invokevirtual 185, 3) := by decide +kernel
theorem dX10_unit_273 : decode cX10_unit 273 = .ok (.istore 4, 2) := by decide +kernel
theorem dX10_unit_275 : decode cX10_unit 275 = .ok (.iload 4, 2) := by decide +kernel
theorem dX10_unit_277 : decode cX10_unit 277 = .ok (.bipush 48, 2) := by decide +kernel
theorem dX10_unit_279 : decode cX10_unit 279 = .ok (.if_icmp .lt 10, 3) := by decide +kernel
theorem dX10_unit_282 : decode cX10_unit 282 = .ok (.iload 4, 2) := by decide +kernel
theorem dX10_unit_284 : decode cX10_unit 284 = .ok (.bipush 57, 2) := by decide +kernel
theorem dX10_unit_286 : decode cX10_unit 286 = .ok (.if_icmp .le 9, 3) := by decide +kernel
theorem dX10_unit_289 : decode cX10_unit 289 = .ok (.aload_n 0, 1) := by decide +kernel
theorem dX10_unit_290 : decode cX10_unit 290 = .ok (.invokevirtual 192, 3) := by decide +kernel
theorem dX10_unit_293 : decode cX10_unit 293 = .ok (.iconst 0, 1) := by decide +kernel
theorem dX10_unit_294 : decode cX10_unit 294 = .ok (.ireturn, 1) := by decide +kernel
theorem dX10_unit_295 : decode cX10_unit 295 = .ok (.iconst 0, 1) := by decide +kernel
theorem dX10_unit_296 : decode cX10_unit 296 = .ok (.istore 5, 2) := by decide +kernel
theorem dX10_unit_298 : decode cX10_unit 298 = .ok (.iconst 0, 1) := by decide +kernel
theorem dX10_unit_299 : decode cX10_unit 299 = .ok (.istore 6, 2) := by decide +kernel
theorem dX10_unit_301 : decode cX10_unit 301 = .ok (.aload_n 0, 1) := by decide +kernel
theorem dX10_unit_302 : decode cX10_unit 302 = .ok (.getfield 173, 3) := by decide +kernel
theorem dX10_unit_305 : decode cX10_unit 305 = .ok (.aload_n 0, 1) := by decide +kernel
theorem dX10_unit_306 : decode cX10_unit 306 = .ok (.getfield 176, 3) := by decide +kernel
theorem dX10_unit_309 : decode cX10_unit 309 = .ok (.if_icmp .ge 94, 3) := by decide +kernel
theorem dX10_unit_312 : decode cX10_unit 312 = .ok (.aload_n 0, 1) := by decide +kernel
theorem dX10_unit_313 : decode cX10_unit 313 = .ok (.getfield 114, 3) := by decide +kernel
theorem dX10_unit_316 : decode cX10_unit 316 = .ok (.aload_n 0, 1) := by decide +kernel
theorem dX10_unit_317 : decode cX10_unit 317 = .ok (.getfield 179, 3) := by decide +kernel
theorem dX10_unit_320 : decode cX10_unit 320 = .ok (.aload_n 0, 1) := by decide +kernel
theorem dX10_unit_321 : decode cX10_unit 321 = .ok (.getfield 173, 3) := by decide +kernel
theorem dX10_unit_324 : decode cX10_unit 324 = .ok (.iadd, 1) := by decide +kernel
theorem dX10_unit_325 : decode cX10_unit 325 = .ok (.baload, 1) := by decide +kernel
theorem dX10_unit_326 : decode cX10_unit 326 = .ok (.bipush 48, 2) := by decide +kernel
theorem dX10_unit_328 : decode cX10_unit 328 = .ok (.if_icmp .lt 75, 3) := by decide +kernel
theorem dX10_unit_331 : decode cX10_unit 331 = .ok (.aload_n 0, 1) := by decide +kernel
theorem dX10_unit_332 : decode cX10_unit 332 = .ok (.getfield 114, 3) := by decide +kernel
theorem dX10_unit_335 : decode cX10_unit 335 = .ok (.aload_n 0, 1) := by decide +kernel
theorem dX10_unit_336 : decode cX10_unit 336 = .ok (.getfield 179, 3) := by decide +kernel
theorem dX10_unit_339 : decode cX10_unit 339 = .ok (.aload_n 0, 1) := by decide +kernel
theorem dX10_unit_340 : decode cX10_unit 340 = .ok (.getfield 173, 3) := by decide +kernel
theorem dX10_unit_343 : decode cX10_unit 343 = .ok (.iadd, 1) := by decide +kernel
theorem dX10_unit_344 : decode cX10_unit 344 = .ok (.baload, 1) := by decide +kernel
theorem dX10_unit_345 : decode cX10_unit 345 = .ok (.bipush 57, 2) := by decide +kernel
theorem dX10_unit_347 : decode cX10_unit 347 = .ok (.if_icmp .gt 56, 3) := by decide +kernel
theorem dX10_unit_350 : decode cX10_unit 350 = .ok (.iload 6, 2) := by decide +kernel
theorem dX10_unit_352 : decode cX10_unit 352 = .ok (.iconst 5, 1) := by decide +kernel
theorem dX10_unit_353 : decode cX10_unit 353 = .ok (.if_icmp .ne 9, 3) := by decide +kernel
theorem dX10_unit_356 : decode cX10_unit 356 = .ok (.aload_n 0, 1) := by decide +kernel
theorem dX10_unit_357 : decode cX10_unit 357 = .ok (.invokevirtual 192, 3) := by decide +kernel
theorem dX10_unit_360 : decode cX10_unit 360 = .ok (.iconst 0, 1) := by decide +kernel
theorem dX10_unit_361 : decode cX10_unit 361 = .ok (.ireturn, 1) := by decide +kernel
theorem dX10_unit_362 : decode cX10_unit 362 = .ok (.bipush 10, 2) := by decide +kernel
theorem dX10_unit_364 : decode cX10_unit 364 = .ok (.iload 5, 2) := by decide +kernel
theorem dX10_unit_366 : decode cX10_unit 366 = .ok (.imul, 1) := by decide +kernel
theorem dX10_unit_367 : decode cX10_unit 367 = .ok (.aload_n 0, 1) := by decide +kernel
theorem dX10_unit_368 : decode cX10_unit 368 = .ok (.getfield 114, 3) := by decide +kernel
theorem dX10_unit_371 : decode cX10_unit 371 = .ok (.aload_n 0, 1) := by decide +kernel
theorem dX10_unit_372 : decode cX10_unit 372 = .ok (.getfield 179, 3) := by decide +kernel
theorem dX10_unit_375 : decode cX10_unit 375 = .ok (.aload_n 0, 1) := by decide +kernel
theorem dX10_unit_376 : decode cX10_unit 376 = .ok (.getfield 173, 3) := by decide +kernel
theorem dX10_unit_379 : decode cX10_unit 379 = .ok (.iadd, 1) := by decide +kernel
theorem dX10_unit_380 : decode cX10_unit 380 = .ok (.baload, 1) := by decide +kernel
theorem dX10_unit_381 : decode cX10_unit 381 = .ok (.iadd, 1) := by decide +kernel
theorem dX10_unit_382 : decode cX10_unit 382 = .ok (.bipush 48, 2) := by decide +kernel
theorem dX10_unit_384 : decode cX10_unit 384 = .ok (.isub, 1) := by decide +kernel
theorem dX10_unit_385 : decode cX10_unit 385 = .ok (.istore 5, 2) := by decide +kernel
theorem dX10_unit_387 : decode cX10_unit 387 = .ok (.iinc 6 1, 3) := by decide +kernel
theorem dX10_unit_390 : decode cX10_unit 390 = .ok (.aload_n 0, 1) := by decide +kernel
theorem dX10_unit_391 : decode cX10_unit 391 = .ok (.dup, 1) := by decide +kernel
theorem dX10_unit_392 : decode cX10_unit 392 = .ok (.getfield 173, 3) := by decide +kernel
theorem dX10_unit_395 : decode cX10_unit 395 = .ok (.iconst 1, 1) := by decide +kernel
theorem dX10_unit_396 : decode cX10_unit 396 = .ok (.iadd, 1) := by decide +kernel
theorem dX10_unit_397 : decode cX10_unit 397 = .ok (.putfield 173, 3) := by decide +kernel
theorem dX10_unit_400 : decode cX10_unit 400 = .ok (.goto (-99), 3) := by decide +kernel
theorem dX10_unit_403 : decode cX10_unit 403 = .ok (.iload_n 3, 1) := by decide +kernel
theorem dX10_unit_404 : decode cX10_unit 404 = .ok (.bipush 60, 2) := by decide +kernel
theorem dX10_unit_406 : decode cX10_unit 406 = .ok (.if_icmp .ne 17, 3) := by decide +kernel
theorem dX10_unit_409 : decode cX10_unit 409 = .ok (.iload_n 2, 1) := by decide +kernel
theorem dX10_unit_410 : decode cX10_unit 410 = .ok (.iload 5, 2) := by decide +kernel
theorem dX10_unit_412 : decode cX10_unit 412 = .ok (.if_icmp .ge 7, 3) := by decide +kernel
theorem dX10_unit_415 : decode cX10_unit 415 = .ok (.iconst 1, 1) := by decide +kernel
theorem dX10_unit_416 : decode cX10_unit 416 = .ok (.goto 38, 3) := by decide +kernel
theorem dX10_unit_419 : decode cX10_unit 419 = .ok (.iconst 0, 1) := by decide +kernel
theorem dX10_unit_420 : decode cX10_unit 420 = .ok (.goto 34, 3) := by decide +kernel
theorem dX10_unit_423 : decode cX10_unit 423 = .ok (.iload_n 3, 1) := by decide +kernel
theorem dX10_unit_424 : decode cX10_unit 424 = .ok (.bipush 62, 2) := by decide +kernel
theorem dX10_unit_426 : decode cX10_unit 426 = .ok (.if_icmp .ne 17, 3) := by decide +kernel
theorem dX10_unit_429 : decode cX10_unit 429 = .ok (.iload_n 2, 1) := by decide +kernel
theorem dX10_unit_430 : decode cX10_unit 430 = .ok (.iload 5, 2) := by decide +kernel
theorem dX10_unit_432 : decode cX10_unit 432 = .ok (.if_icmp .le 7, 3) := by decide +kernel
theorem dX10_unit_435 : decode cX10_unit 435 = .ok (.iconst 1, 1) := by decide +kernel
theorem dX10_unit_436 : decode cX10_unit 436 = .ok (.goto 18, 3) := by decide +kernel
theorem dX10_unit_439 : decode cX10_unit 439 = .ok (.iconst 0, 1) := by decide +kernel
theorem dX10_unit_440 : decode cX10_unit 440 = .ok (.goto 14, 3) := by decide +kernel
theorem dX10_unit_443 : decode cX10_unit 443 = .ok (.iload_n 2, 1) := by decide +kernel
theorem dX10_unit_444 : decode cX10_unit 444 = .ok (.iload 5, 2) := by decide +kernel
theorem dX10_unit_446 : decode cX10_unit 446 = .ok (.if_icmp .ne 7, 3) := by decide +kernel
theorem dX10_unit_449 : decode cX10_unit 449 = .ok (.iconst 1, 1) := by decide +kernel
theorem dX10_unit_450 : decode cX10_unit 450 = .ok (.goto 4, 3) := by decide +kernel
theorem dX10_unit_453 : decode cX10_unit 453 = .ok (.iconst 0, 1) := by decide +kernel
theorem dX10_unit_454 : decode cX10_unit 454 = .ok (.ireturn, 1) := by decide +kernel
theorem dX10_part_0 : decode cX10_part 0 = .ok (.aload_n 0, 1) := by decide +kernel
theorem dX10_part_1 : decode cX10_part 1 = .ok (.invokevirtual 199, 3) := by decide +kernel
theorem dX10_part_4 : decode cX10_part 4 = .ok (.istore_n 1, 1) := by decide +kernel
theorem dX10_part_5 : decode cX10_part 5 = .ok (.aload_n 0, 1) := by decide +kernel
theorem dX10_part_6 : decode cX10_part 6 = .ok (.getfield 182, 3) := by decide +kernel
theorem dX10_part_9 : decode cX10_part 9 = .ok (.iconst (-1), 1) := by decide +kernel
theorem dX10_part_10 : decode cX10_part 10 = .ok (.if_icmp .ne 44, 3) := by decide +kernel
theorem dX10_part_13 : decode cX10_part 13 = .ok (.aload_n 0, 1) := by decide +kernel
theorem dX10_part_14 : decode cX10_part 14 = .ok (.invokevirtual 185, 3) := by decide +kernel
theorem dX10_part_17 : decode cX10_part 17 = .ok (.bipush 38, 2) := by decide +kernel
theorem dX10_part_19 : decode cX10_part 19 = .ok (.if_icmp .ne 35, 3) := by decide +kernel
theorem dX10_part_22 : decode cX10_part 22 = .ok (.aload_n 0, 1) := by decide +kernel
theorem dX10_part_23 : decode cX10_part 23 = .ok (.dup, 1) := by decide +kernel
theorem dX10_part_24 : decode cX10_part 24 = .ok (.getfield 173, 3) := by decide +kernel
theorem dX10_part_27 : decode cX10_part 27 = .ok (.iconst 1, 1) := by decide +kernel
theorem dX10_part_28 : decode cX10_part 28 = .ok (.iadd, 1) := by decide +kernel
theorem dX10_part_29 : decode cX10_part 29 = .ok (.putfield 173, 3) := by decide +kernel
theorem dX10_part_32 : decode cX10_part 32 = .ok (.aload_n 0, 1) := by decide +kernel
theorem dX10_part_33 : decode cX10_part 33 = .ok (.invokevirtual 199, 3) := by decide +kernel
theorem dX10_part_36 : decode cX10_part 36 = .ok (.istore_n 2, 1) := by decide +kernel
theorem dX10_part_37 : decode cX10_part 37 = .ok (.iload_n 1, 1) := by decide +kernel
theorem dX10_part_38 : decode cX10_part 38 = .ok (.ifCond .eq 11, 3) := by decide +kernel
theorem dX10_part_41 : decode cX10_part 41 = .ok (.iload_n 2, 1) := by decide +kernel
theorem dX10_part_42 : decode cX10_part 42 = .ok (.ifCond .eq 7, 3) := by decide +kernel
theorem dX10_part_45 : decode cX10_part 45 = .ok (.iconst 1, 1) := by decide +kernel
theorem dX10_part_46 : decode cX10_part 46 = .ok (.goto 4, 3) := by decide +kernel
theorem dX10_part_49 : decode cX10_part 49 = .ok (.iconst 0, 1) := by decide +kernel
theorem dX10_part_50 : decode cX10_part 50 = .ok (.istore_n 1, 1) := by decide +kernel
theorem dX10_part_51 : decode cX10_part 51 = .ok (.goto (-46), 3) := by decide +kernel
theorem dX10_part_54 : decode cX10_part 54 = .ok (.iload_n 1, 1) := by decide +kernel
theorem dX10_part_55 : decode cX10_part 55 = .ok (.ireturn, 1) := by decide +kernel
theorem dX10_tests_0 : decode cX10_tests 0 = .ok (.aload_n 0, 1) := by decide +kernel
theorem dX10_tests_1 : decode cX10_tests 1 = .ok (.invokevirtual 202, 3) := by decide +kernel
theorem dX10_tests_4 : decode cX10_tests 4 = .ok (.istore_n 1, 1) := by decide +kernel
theorem dX10_tests_5 : decode cX10_tests 5 = .ok (.aload_n 0, 1) := by decide +kernel
theorem dX10_tests_6 : decode cX10_tests 6 = .ok (.getfield 182, 3) := by decide +kernel
theorem dX10_tests_9 : decode cX10_tests 9 = .ok (.iconst (-1), 1) := by decide +kernel
theorem dX10_tests_10 : decode cX10_tests 10 = .ok (.if_icmp .ne 44, 3) := by decide +kernel
theorem dX10_tests_13 : decode cX10_tests 13 = .ok (.aload_n 0, 1) := by decide +kernel
theorem dX10_tests_14 : decode cX10_tests 14 = .ok (.invokevirtual 185, 3) := by decide +kernel
theorem dX10_tests_17 : decode cX10_tests 17 = .ok (.bipush 124, 2) := by decide +kernel
theorem dX10_tests_19 : decode cX10_tests 19 = .ok (.if_icmp .ne 35, 3) := by decide +kernel
theorem dX10_tests_22 : decode cX10_tests 22 = .ok (.aload_n 0, 1) := by decide +kernel
theorem dX10_tests_23 : decode cX10_tests 23 = .ok (.dup, 1) := by decide +kernel
theorem dX10_tests_24 : decode cX10_tests 24 = .ok (.getfield 173, 3) := by decide +kernel
theorem dX10_tests_27 : decode cX10_tests 27 = .ok (.iconst 1, 1) := by decide +kernel
theorem dX10_tests_28 : decode cX10_tests 28 = .ok (.iadd, 1) := by decide +kernel
theorem dX10_tests_29 : decode cX10_tests 29 = .ok (.putfield 173, 3) := by decide +kernel
theorem dX10_tests_32 : decode cX10_tests 32 = .ok (.aload_n 0, 1) := by decide +kernel
theorem dX10_tests_33 : decode cX10_tests 33 = .ok (.invokevirtual 202, 3) := by decide +kernel
theorem dX10_tests_36 : decode cX10_tests 36 = .ok (.istore_n 2, 1) := by decide +kernel
theorem dX10_tests_37 : decode cX10_tests 37 = .ok (.iload_n 1, 1) := by decide +kernel
theorem dX10_tests_38 : decode cX10_tests 38 = .ok (.ifCond .ne 7, 3) := by decide +kernel
theorem dX10_tests_41 : decode cX10_tests 41 = .ok (.iload_n 2, 1) := by decide +kernel
theorem dX10_tests_42 : decode cX10_tests 42 = .ok (.ifCond .eq 7, 3) := by decide +kernel
theorem dX10_tests_45 : decode cX10_tests 45 = .ok (.iconst 1, 1) := by decide +kernel
theorem dX10_tests_46 : decode cX10_tests 46 = .ok (.goto 4, 3) := by decide +kernel
theorem dX10_tests_49 : decode cX10_tests 49 = .ok (.iconst 0, 1) := by decide +kernel
theorem dX10_tests_50 : decode cX10_tests 50 = .ok (.istore_n 1, 1) := by decide +kernel
theorem dX10_tests_51 : decode cX10_tests 51 = .ok (.goto (-46), 3) := by decide +kernel
theorem dX10_tests_54 : decode cX10_tests 54 = .ok (.iload_n 1, 1) := by decide +kernel
theorem dX10_tests_55 : decode cX10_tests 55 = .ok (.ireturn, 1) := by decide +kernel
theorem dX10_holds_0 : decode cX10_holds 0 = .ok (.aload_n 0, 1) := by decide +kernel
theorem dX10_holds_1 : decode cX10_holds 1 = .ok (.aload_n 1, 1) := by decide +kernel
theorem dX10_holds_2 : decode cX10_holds 2 = .ok (.putfield 114, 3) := by decide +kernel
theorem dX10_holds_5 : decode cX10_holds 5 = .ok (.aload_n 0, 1) := by decide +kernel
theorem dX10_holds_6 : decode cX10_holds 6 = .ok (.iload_n 2, 1) := by decide +kernel
theorem dX10_holds_7 : decode cX10_holds 7 = .ok (.putfield 179, 3) := by decide +kernel
theorem dX10_holds_10 : decode cX10_holds 10 = .ok (.aload_n 0, 1) := by decide +kernel
theorem dX10_holds_11 : decode cX10_holds 11 = .ok (.iload_n 3, 1) := by decide +kernel
theorem dX10_holds_12 : decode cX10_holds 12 = .ok (.putfield 176, 3) := by decide +kernel
theorem dX10_holds_15 : decode cX10_holds 15 = .ok (.aload_n 0, 1) := by decide +kernel
theorem dX10_holds_16 : decode cX10_holds 16 = .ok (.iconst 0, 1) := by decide +kernel
theorem dX10_holds_17 : decode cX10_holds 17 = .ok (.putfield 173, 3) := by decide +kernel
theorem dX10_holds_20 : decode cX10_holds 20 = .ok (.aload_n 0, 1) := by decide +kernel
theorem dX10_holds_21 : decode cX10_holds 21 = .ok (.iconst 0, 1) := by decide +kernel
theorem dX10_holds_22 : decode cX10_holds 22 = .ok (.putfield 189, 3) := by decide +kernel
theorem dX10_holds_25 : decode cX10_holds 25 = .ok (.aload_n 0, 1) := by decide +kernel
theorem dX10_holds_26 : decode cX10_holds 26 = .ok (.iconst (-1), 1) := by decide +kernel
theorem dX10_holds_27 : decode cX10_holds 27 = .ok (.putfield 182, 3) := by decide +kernel
theorem dX10_holds_30 : decode cX10_holds 30 = .ok (.aload_n 0, 1) := by decide +kernel
theorem dX10_holds_31 : decode cX10_holds 31 = .ok (.invokevirtual 195, 3) := by decide +kernel
theorem dX10_holds_34 : decode cX10_holds 34 = .ok (.istore 4, 2) := by decide +kernel
theorem dX10_holds_36 : decode cX10_holds 36 = .ok (.aload_n 0, 1) := by decide +kernel
theorem dX10_holds_37 : decode cX10_holds 37 = .ok (.getfield 182, 3) := by decide +kernel
theorem dX10_holds_40 : decode cX10_holds 40 = .ok (.iconst (-1), 1) := by decide +kernel
theorem dX10_holds_41 : decode cX10_holds 41 = .ok (.if_icmp .ne 15, 3) := by decide +kernel
theorem dX10_holds_44 : decode cX10_holds 44 = .ok (.aload_n 0, 1) := by decide +kernel
theorem dX10_holds_45 : decode cX10_holds 45 = .ok (.invokevirtual 185, 3) := by decide +kernel
theorem dX10_holds_48 : decode cX10_holds 48 = .ok (.iconst (-1), 1) := by decide +kernel
theorem dX10_holds_49 : decode cX10_holds 49 = .ok (.if_icmp .eq 7, 3) := by decide +kernel
theorem dX10_holds_52 : decode cX10_holds 52 = .ok (.aload_n 0, 1) := by decide +kernel
theorem dX10_holds_53 : decode cX10_holds 53 = .ok (.invokevirtual 192, 3) := by decide +kernel
theorem dX10_holds_56 : decode cX10_holds 56 = .ok (.iload 4, 2) := by decide +kernel
theorem dX10_holds_58 : decode cX10_holds 58 = .ok (.ifCond .eq 15, 3) := by decide +kernel
theorem dX10_holds_61 : decode cX10_holds 61 = .ok (.aload_n 0, 1) := by decide +kernel
theorem dX10_holds_62 : decode cX10_holds 62 = .ok (.getfield 182, 3) := by decide +kernel
theorem dX10_holds_65 : decode cX10_holds 65 = .ok (.iconst (-1), 1) := by decide +kernel
theorem dX10_holds_66 : decode cX10_holds 66 = .ok (.if_icmp .ne 7, 3) := by decide +kernel
theorem dX10_holds_69 : decode cX10_holds 69 = .ok (.iconst 1, 1) := by decide +kernel
theorem dX10_holds_70 : decode cX10_holds 70 = .ok (.goto 4, 3) := by decide +kernel
theorem dX10_holds_73 : decode cX10_holds 73 = .ok (.iconst 0, 1) := by decide +kernel
theorem dX10_holds_74 : decode cX10_holds 74 = .ok (.ireturn, 1) := by decide +kernel
theorem dX10_feed_0 : decode cX10_feed 0 = .ok (.aload_n 0, 1) := by decide +kernel
theorem dX10_feed_1 : decode cX10_feed 1 = .ok (.iconst 0, 1) := by decide +kernel
theorem dX10_feed_2 : decode cX10_feed 2 = .ok (.putfield 117, 3) := by decide +kernel
theorem dX10_feed_5 : decode cX10_feed 5 = .ok (.iconst 0, 1) := by decide +kernel
theorem dX10_feed_6 : decode cX10_feed 6 = .ok (.istore_n 2, 1) := by decide +kernel
theorem dX10_feed_7 : decode cX10_feed 7 = .ok (.bipush 24, 2) := by decide +kernel
theorem dX10_feed_9 : decode cX10_feed 9 = .ok (.istore_n 3, 1) := by decide +kernel
theorem dX10_feed_10 : decode cX10_feed 10 = .ok (.iload_n 3, 1) := by decide +kernel
theorem dX10_feed_11 : decode cX10_feed 11 = .ok (.ifCond .lt 27, 3) := by decide +kernel
theorem dX10_feed_14 : decode cX10_feed 14 = .ok (.iload_n 2, 1) := by decide +kernel
theorem dX10_feed_15 : decode cX10_feed 15 = .ok (.iload_n 1, 1) := by decide +kernel
theorem dX10_feed_16 : decode cX10_feed 16 = .ok (.iload_n 3, 1) := by decide +kernel
theorem dX10_feed_17 : decode cX10_feed 17 = .ok (.ishr, 1) := by decide +kernel
theorem dX10_feed_18 : decode cX10_feed 18 = .ok (.sipush 255, 3) := by decide +kernel
theorem dX10_feed_21 : decode cX10_feed 21 = .ok (.iand, 1) := by decide +kernel
theorem dX10_feed_22 : decode cX10_feed 22 = .ok (.ifCond .eq 7, 3) := by decide +kernel
theorem dX10_feed_25 : decode cX10_feed 25 = .ok (.iconst 1, 1) := by decide +kernel
theorem dX10_feed_26 : decode cX10_feed 26 = .ok (.goto 4, 3) := by decide +kernel
theorem dX10_feed_29 : decode cX10_feed 29 = .ok (.iconst 0, 1) := by decide +kernel
theorem dX10_feed_30 : decode cX10_feed 30 = .ok (.iadd, 1) := by decide +kernel
theorem dX10_feed_31 : decode cX10_feed 31 = .ok (.istore_n 2, 1) := by decide +kernel
theorem dX10_feed_32 : decode cX10_feed 32 = .ok (.iinc 3 (-8), 3) := by decide +kernel
theorem dX10_feed_35 : decode cX10_feed 35 = .ok (.goto (-25), 3) := by decide +kernel
theorem dX10_feed_38 : decode cX10_feed 38 = .ok (.aload_n 0, 1) := by decide +kernel
theorem dX10_feed_39 : decode cX10_feed 39 = .ok (.getfield 205, 3) := by decide +kernel
theorem dX10_feed_42 : decode cX10_feed 42 = .ok (.iload_n 2, 1) := by decide +kernel
theorem dX10_feed_43 : decode cX10_feed 43 = .ok (.iadd, 1) := by decide +kernel
theorem dX10_feed_44 : decode cX10_feed 44 = .ok (.bipush 120, 2) := by decide +kernel
theorem dX10_feed_46 : decode cX10_feed 46 = .ok (.if_icmp .le 5, 3) := by decide +kernel
theorem dX10_feed_49 : decode cX10_feed 49 = .ok (.iconst (-1), 1) := by decide +kernel
theorem dX10_feed_50 : decode cX10_feed 50 = .ok (.ireturn, 1) := by decide +kernel
theorem dX10_feed_51 : decode cX10_feed 51 = .ok (.bipush 24, 2) := by decide +kernel
theorem dX10_feed_53 : decode cX10_feed 53 = .ok (.istore_n 3, 1) := by decide +kernel
theorem dX10_feed_54 : decode cX10_feed 54 = .ok (.iload_n 3, 1) := by decide +kernel
theorem dX10_feed_55 : decode cX10_feed 55 = .ok (.ifCond .lt 45, 3) := by decide +kernel
theorem dX10_feed_58 : decode cX10_feed 58 = .ok (.iload_n 1, 1) := by decide +kernel
theorem dX10_feed_59 : decode cX10_feed 59 = .ok (.iload_n 3, 1) := by decide +kernel
theorem dX10_feed_60 : decode cX10_feed 60 = .ok (.ishr, 1) := by decide +kernel
theorem dX10_feed_61 : decode cX10_feed 61 = .ok (.sipush 255, 3) := by decide +kernel
theorem dX10_feed_64 : decode cX10_feed 64 = .ok (.iand, 1) := by decide +kernel
theorem dX10_feed_65 : decode cX10_feed 65 = .ok (.ifCond .ne 6, 3) := by decide +kernel
theorem dX10_feed_68 : decode cX10_feed 68 = .ok (.goto 26, 3) := by decide +kernel
theorem dX10_feed_71 : decode cX10_feed 71 = .ok (.aload_n 0, 1) := by decide +kernel
theorem dX10_feed_72 : decode cX10_feed 72 = .ok (.getfield 58, 3) := by decide +kernel
theorem dX10_feed_75 : decode cX10_feed 75 = .ok (.aload_n 0, 1) := by decide +kernel
theorem dX10_feed_76 : decode cX10_feed 76 = .ok (.getfield 205, 3) := by decide +kernel
theorem dX10_feed_79 : decode cX10_feed 79 = .ok (.iload_n 1, 1) := by decide +kernel
theorem dX10_feed_80 : decode cX10_feed 80 = .ok (.iload_n 3, 1) := by decide +kernel
theorem dX10_feed_81 : decode cX10_feed 81 = .ok (.ishr, 1) := by decide +kernel
theorem dX10_feed_82 : decode cX10_feed 82 = .ok (.i2b, 1) := by decide +kernel
theorem dX10_feed_83 : decode cX10_feed 83 = .ok (.bastore, 1) := by decide +kernel
theorem dX10_feed_84 : decode cX10_feed 84 = .ok (.aload_n 0, 1) := by decide +kernel
theorem dX10_feed_85 : decode cX10_feed 85 = .ok (.dup, 1) := by decide +kernel
theorem dX10_feed_86 : decode cX10_feed 86 = .ok (.getfield 205, 3) := by decide +kernel
theorem dX10_feed_89 : decode cX10_feed 89 = .ok (.iconst 1, 1) := by decide +kernel
theorem dX10_feed_90 : decode cX10_feed 90 = .ok (.iadd, 1) := by decide +kernel
theorem dX10_feed_91 : decode cX10_feed 91 = .ok (.putfield 205, 3) := by decide +kernel
theorem dX10_feed_94 : decode cX10_feed 94 = .ok (.iinc 3 (-8), 3) := by decide +kernel
theorem dX10_feed_97 : decode cX10_feed 97 = .ok (.goto (-43), 3) := by decide +kernel
theorem dX10_feed_100 : decode cX10_feed 100 = .ok (.aload_n 0, 1) := by decide +kernel
theorem dX10_feed_101 : decode cX10_feed 101 = .ok (.getfield 205, 3) := by decide +kernel
theorem dX10_feed_104 : decode cX10_feed 104 = .ok (.ireturn, 1) := by decide +kernel
theorem dX10_end_0 : decode cX10_end 0 = .ok (.aload_n 0, 1) := by decide +kernel
theorem dX10_end_1 : decode cX10_end 1 = .ok (.iconst 0, 1) := by decide +kernel
theorem dX10_end_2 : decode cX10_end 2 = .ok (.putfield 117, 3) := by decide +kernel
theorem dX10_end_5 : decode cX10_end 5 = .ok (.iload_n 1, 1) := by decide +kernel
theorem dX10_end_6 : decode cX10_end 6 = .ok (.ifCond .lt 11, 3) := by decide +kernel
theorem dX10_end_9 : decode cX10_end 9 = .ok (.iload_n 1, 1) := by decide +kernel
theorem dX10_end_10 : decode cX10_end 10 = .ok (.aload_n 0, 1) := by decide +kernel
end
section
theorem dX10_end_11 : decode cX10_end 11 = .ok (.getfield 205, 3) := by decide +kernel
theorem dX10_end_14 : decode cX10_end 14 = .ok (.if_icmp .le 5, 3) := by decide +kernel
theorem dX10_end_17 : decode cX10_end 17 = .ok (.iconst 0, 1) := by decide +kernel
theorem dX10_end_18 : decode cX10_end 18 = .ok (.ireturn, 1) := by decide +kernel
theorem dX10_end_19 : decode cX10_end 19 = .ok (.aload_n 0, 1) := by decide +kernel
theorem dX10_end_20 : decode cX10_end 20 = .ok (.iload_n 1, 1) := by decide +kernel
theorem dX10_end_21 : decode cX10_end 21 = .ok (.putfield 205, 3) := by decide +kernel
theorem dX10_end_24 : decode cX10_end 24 = .ok (.iconst 1, 1) := by decide +kernel
theorem dX10_end_25 : decode cX10_end 25 = .ok (.ireturn, 1) := by decide +kernel
theorem dX10_fault_0 : decode cX10_fault 0 = .ok (.aload_n 0, 1) := by decide +kernel
theorem dX10_fault_1 : decode cX10_fault 1 = .ok (.iconst 0, 1) := by decide +kernel
theorem dX10_fault_2 : decode cX10_fault 2 = .ok (.putfield 117, 3) := by decide +kernel
theorem dX10_fault_5 : decode cX10_fault 5 = .ok (.aload_n 0, 1) := by decide +kernel
theorem dX10_fault_6 : decode cX10_fault 6 = .ok (.aload_n 0, 1) := by decide +kernel
theorem dX10_fault_7 : decode cX10_fault 7 = .ok (.getfield 58, 3) := by decide +kernel
theorem dX10_fault_10 : decode cX10_fault 10 = .ok (.iconst 0, 1) := by decide +kernel
theorem dX10_fault_11 : decode cX10_fault 11 = .ok (.aload_n 0, 1) := by decide +kernel
theorem dX10_fault_12 : decode cX10_fault 12 = .ok (.getfield 205, 3) := by decide +kernel
theorem dX10_fault_15 : decode cX10_fault 15 = .ok (.invokevirtual 208, 3) := by decide +kernel
theorem dX10_fault_18 : decode cX10_fault 18 = .ok (.istore_n 1, 1) := by decide +kernel
theorem dX10_fault_19 : decode cX10_fault 19 = .ok (.aload_n 0, 1) := by decide +kernel
theorem dX10_fault_20 : decode cX10_fault 20 = .ok (.getfield 182, 3) := by decide +kernel
theorem dX10_fault_23 : decode cX10_fault 23 = .ok (.ireturn, 1) := by decide +kernel
theorem dX10_statute_0 : decode cX10_statute 0 = .ok (.aload_n 0, 1) := by decide +kernel
theorem dX10_statute_1 : decode cX10_statute 1 = .ok (.iconst 0, 1) := by decide +kernel
theorem dX10_statute_2 : decode cX10_statute 2 = .ok (.putfield 117, 3) := by decide +kernel
theorem dX10_statute_5 : decode cX10_statute 5 = .ok (.aload_n 0, 1) := by decide +kernel
theorem dX10_statute_6 : decode cX10_statute 6 = .ok (.aload_n 0, 1) := by decide +kernel
theorem dX10_statute_7 : decode cX10_statute 7 = .ok (.getfield 58, 3) := by decide +kernel
theorem dX10_statute_10 : decode cX10_statute 10 = .ok (.iconst 0, 1) := by decide +kernel
theorem dX10_statute_11 : decode cX10_statute 11 = .ok (.aload_n 0, 1) := by decide +kernel
theorem dX10_statute_12 : decode cX10_statute 12 = .ok (.getfield 205, 3) := by decide +kernel
theorem dX10_statute_15 : decode cX10_statute 15 = .ok (.invokevirtual 208, 3) := by decide +kernel
theorem dX10_statute_18 : decode cX10_statute 18 = .ok (.istore_n 2, 1) := by decide +kernel
theorem dX10_statute_19 : decode cX10_statute 19 = .ok (.aload_n 0, 1) := by decide +kernel
theorem dX10_statute_20 : decode cX10_statute 20 = .ok (.getfield 182, 3) := by decide +kernel
theorem dX10_statute_23 : decode cX10_statute 23 = .ok (.iconst (-1), 1) := by decide +kernel
theorem dX10_statute_24 : decode cX10_statute 24 = .ok (.if_icmp .ne 23, 3) := by decide +kernel
theorem dX10_statute_27 : decode cX10_statute 27 = .ok (.iload_n 1, 1) := by decide +kernel
theorem dX10_statute_28 : decode cX10_statute 28 = .ok (.iconst 0, 1) := by decide +kernel
theorem dX10_statute_29 : decode cX10_statute 29 = .ok (.sipush 20000, 3) := by decide +kernel
theorem dX10_statute_32 : decode cX10_statute 32 = .ok (.invokestatic 137, 3) := by decide +kernel
theorem dX10_statute_35 : decode cX10_statute 35 = .ok (.ifCond .eq 12, 3) := by decide +kernel
theorem dX10_statute_38 : decode cX10_statute 38 = .ok (.aload_n 0, 1) := by decide +kernel
theorem dX10_statute_39 : decode cX10_statute 39 = .ok (.getfield 212, 3) := by decide +kernel
theorem dX10_statute_42 : decode cX10_statute 42 = .ok (.bipush 30, 2) := by decide +kernel
theorem dX10_statute_44 : decode cX10_statute 44 = .ok (.if_icmp .ne 5, 3) := by decide +kernel
theorem dX10_statute_47 : decode cX10_statute 47 = .ok (.iconst (-1), 1) := by decide +kernel
theorem dX10_statute_48 : decode cX10_statute 48 = .ok (.ireturn, 1) := by decide +kernel
theorem dX10_statute_49 : decode cX10_statute 49 = .ok (.iconst 0, 1) := by decide +kernel
theorem dX10_statute_50 : decode cX10_statute 50 = .ok (.istore_n 3, 1) := by decide +kernel
theorem dX10_statute_51 : decode cX10_statute 51 = .ok (.iload_n 3, 1) := by decide +kernel
theorem dX10_statute_52 : decode cX10_statute 52 = .ok (.aload_n 0, 1) := by decide +kernel
theorem dX10_statute_53 : decode cX10_statute 53 = .ok (.getfield 205, 3) := by decide +kernel
theorem dX10_statute_56 : decode cX10_statute 56 = .ok (.if_icmp .ge 29, 3) := by decide +kernel
theorem dX10_statute_59 : decode cX10_statute 59 = .ok (.aload_n 0, 1) := by decide +kernel
theorem dX10_statute_60 : decode cX10_statute 60 = .ok (.getfield 62, 3) := by decide +kernel
theorem dX10_statute_63 : decode cX10_statute 63 = .ok (.bipush 120, 2) := by decide +kernel
theorem dX10_statute_65 : decode cX10_statute 65 = .ok (.aload_n 0, 1) := by decide +kernel
theorem dX10_statute_66 : decode cX10_statute 66 = .ok (.getfield 212, 3) := by decide +kernel
theorem dX10_statute_69 : decode cX10_statute 69 = .ok (.imul, 1) := by decide +kernel
theorem dX10_statute_70 : decode cX10_statute 70 = .ok (.iload_n 3, 1) := by decide +kernel
theorem dX10_statute_71 : decode cX10_statute 71 = .ok (.iadd, 1) := by decide +kernel
theorem dX10_statute_72 : decode cX10_statute 72 = .ok (.aload_n 0, 1) := by decide +kernel
theorem dX10_statute_73 : decode cX10_statute 73 = .ok (.getfield 58, 3) := by decide +kernel
theorem dX10_statute_76 : decode cX10_statute 76 = .ok (.iload_n 3, 1) := by decide +kernel
theorem dX10_statute_77 : decode cX10_statute 77 = .ok (.baload, 1) := by decide +kernel
theorem dX10_statute_78 : decode cX10_statute 78 = .ok (.bastore, 1) := by decide +kernel
theorem dX10_statute_79 : decode cX10_statute 79 = .ok (.iinc 3 1, 3) := by decide +kernel
theorem dX10_statute_82 : decode cX10_statute 82 = .ok (.goto (-31), 3) := by decide +kernel
theorem dX10_statute_85 : decode cX10_statute 85 = .ok (.aload_n 0, 1) := by decide +kernel
theorem dX10_statute_86 : decode cX10_statute 86 = .ok (.getfield 65, 3) := by decide +kernel
theorem dX10_statute_89 : decode cX10_statute 89 = .ok (.aload_n 0, 1) := by decide +kernel
theorem dX10_statute_90 : decode cX10_statute 90 = .ok (.getfield 212, 3) := by decide +kernel
theorem dX10_statute_93 : decode cX10_statute 93 = .ok (.aload_n 0, 1) := by decide +kernel
theorem dX10_statute_94 : decode cX10_statute 94 = .ok (.getfield 205, 3) := by decide +kernel
theorem dX10_statute_97 : decode cX10_statute 97 = .ok (.iastore, 1) := by decide +kernel
theorem dX10_statute_98 : decode cX10_statute 98 = .ok (.aload_n 0, 1) := by decide +kernel
theorem dX10_statute_99 : decode cX10_statute 99 = .ok (.getfield 68, 3) := by decide +kernel
theorem dX10_statute_102 : decode cX10_statute 102 = .ok (.aload_n 0, 1) := by decide +kernel
theorem dX10_statute_103 : decode cX10_statute 103 = .ok (.getfield 212, 3) := by decide +kernel
theorem dX10_statute_106 : decode cX10_statute 106 = .ok (.iload_n 1, 1) := by decide +kernel
theorem dX10_statute_107 : decode cX10_statute 107 = .ok (.iastore, 1) := by decide +kernel
theorem dX10_statute_108 : decode cX10_statute 108 = .ok (.aload_n 0, 1) := by decide +kernel
theorem dX10_statute_109 : decode cX10_statute 109 = .ok (.getfield 71, 3) := by decide +kernel
theorem dX10_statute_112 : decode cX10_statute 112 = .ok (.aload_n 0, 1) := by decide +kernel
theorem dX10_statute_113 : decode cX10_statute 113 = .ok (.getfield 212, 3) := by decide +kernel
theorem dX10_statute_116 : decode cX10_statute 116 = .ok (.aload_n 0, 1) := by decide +kernel
theorem dX10_statute_117 : decode cX10_statute 117 = .ok (.getfield 134, 3) := by decide +kernel
theorem dX10_statute_120 : decode cX10_statute 120 = .ok (.iastore, 1) := by decide +kernel
theorem dX10_statute_121 : decode cX10_statute 121 = .ok (.aload_n 0, 1) := by decide +kernel
theorem dX10_statute_122 : decode cX10_statute 122 = .ok (.dup, 1) := by decide +kernel
theorem dX10_statute_123 : decode cX10_statute 123 = .ok (.getfield 212, 3) := by decide +kernel
theorem dX10_statute_126 : decode cX10_statute 126 = .ok (.iconst 1, 1) := by decide +kernel
theorem dX10_statute_127 : decode cX10_statute 127 = .ok (.iadd, 1) := by decide +kernel
theorem dX10_statute_128 : decode cX10_statute 128 = .ok (.putfield 212, 3) := by decide +kernel
theorem dX10_statute_131 : decode cX10_statute 131 = .ok (.aload_n 0, 1) := by decide +kernel
theorem dX10_statute_132 : decode cX10_statute 132 = .ok (.iconst 0, 1) := by decide +kernel
theorem dX10_statute_133 : decode cX10_statute 133 = .ok (.putfield 205, 3) := by decide +kernel
theorem dX10_statute_136 : decode cX10_statute 136 = .ok (.aload_n 0, 1) := by decide +kernel
theorem dX10_statute_137 : decode cX10_statute 137 = .ok (.getfield 212, 3) := by decide +kernel
theorem dX10_statute_140 : decode cX10_statute 140 = .ok (.iconst 1, 1) := by decide +kernel
theorem dX10_statute_141 : decode cX10_statute 141 = .ok (.isub, 1) := by decide +kernel
theorem dX10_statute_142 : decode cX10_statute 142 = .ok (.ireturn, 1) := by decide +kernel
theorem dX10_inForce_0 : decode cX10_inForce 0 = .ok (.iconst (-1), 1) := by decide +kernel
theorem dX10_inForce_1 : decode cX10_inForce 1 = .ok (.istore_n 3, 1) := by decide +kernel
theorem dX10_inForce_2 : decode cX10_inForce 2 = .ok (.iconst 0, 1) := by decide +kernel
theorem dX10_inForce_3 : decode cX10_inForce 3 = .ok (.istore 4, 2) := by decide +kernel
theorem dX10_inForce_5 : decode cX10_inForce 5 = .ok (.iload 4, 2) := by decide +kernel
theorem dX10_inForce_7 : decode cX10_inForce 7 = .ok (.aload_n 0, 1) := by decide +kernel
theorem dX10_inForce_8 : decode cX10_inForce 8 = .ok (.getfield 212, 3) := by decide +kernel
theorem dX10_inForce_11 : decode cX10_inForce 11 = .ok (.if_icmp .ge 55, 3) := by decide +kernel
theorem dX10_inForce_14 : decode cX10_inForce 14 = .ok (.aload_n 0, 1) := by decide +kernel
theorem dX10_inForce_15 : decode cX10_inForce 15 = .ok (.getfield 71, 3) := by decide +kernel
theorem dX10_inForce_18 : decode cX10_inForce 18 = .ok (.iload 4, 2) := by decide +kernel
theorem dX10_inForce_20 : decode cX10_inForce 20 = .ok (.iaload, 1) := by decide +kernel
theorem dX10_inForce_21 : decode cX10_inForce 21 = .ok (.iload_n 2, 1) := by decide +kernel
theorem dX10_inForce_22 : decode cX10_inForce 22 = .ok (.if_icmp .gt 38, 3) := by decide +kernel
theorem dX10_inForce_25 : decode cX10_inForce 25 = .ok (.aload_n 0, 1) := by decide +kernel
theorem dX10_inForce_26 : decode cX10_inForce 26 = .ok (.getfield 68, 3) := by decide +kernel
theorem dX10_inForce_29 : decode cX10_inForce 29 = .ok (.iload 4, 2) := by decide +kernel
theorem dX10_inForce_31 : decode cX10_inForce 31 = .ok (.iaload, 1) := by decide +kernel
theorem dX10_inForce_32 : decode cX10_inForce 32 = .ok (.iload_n 1, 1) := by decide +kernel
theorem dX10_inForce_33 : decode cX10_inForce 33 = .ok (.if_icmp .gt 27, 3) := by decide +kernel
theorem dX10_inForce_36 : decode cX10_inForce 36 = .ok (.iload_n 3, 1) := by decide +kernel
theorem dX10_inForce_37 : decode cX10_inForce 37 = .ok (.iconst (-1), 1) := by decide +kernel
theorem dX10_inForce_38 : decode cX10_inForce 38 = .ok (.if_icmp .eq 19, 3) := by decide +kernel
theorem dX10_inForce_41 : decode cX10_inForce 41 = .ok (.aload_n 0, 1) := by decide +kernel
theorem dX10_inForce_42 : decode cX10_inForce 42 = .ok (.getfield 68, 3) := by decide +kernel
theorem dX10_inForce_45 : decode cX10_inForce 45 = .ok (.iload 4, 2) := by decide +kernel
theorem dX10_inForce_47 : decode cX10_inForce 47 = .ok (.iaload, 1) := by decide +kernel
theorem dX10_inForce_48 : decode cX10_inForce 48 = .ok (.aload_n 0, 1) := by decide +kernel
theorem dX10_inForce_49 : decode cX10_inForce 49 = .ok (.getfield 68, 3) := by decide +kernel
theorem dX10_inForce_52 : decode cX10_inForce 52 = .ok (.iload_n 3, 1) := by decide +kernel
theorem dX10_inForce_53 : decode cX10_inForce 53 = .ok (.iaload, 1) := by decide +kernel
theorem dX10_inForce_54 : decode cX10_inForce 54 = .ok (.if_icmp .lt 6, 3) := by decide +kernel
theorem dX10_inForce_57 : decode cX10_inForce 57 = .ok (.iload 4, 2) := by decide +kernel
theorem dX10_inForce_59 : decode cX10_inForce 59 = .ok (.istore_n 3, 1) := by decide +kernel
theorem dX10_inForce_60 : decode cX10_inForce 60 = .ok (.iinc 4 1, 3) := by decide +kernel
theorem dX10_inForce_63 : decode cX10_inForce 63 = .ok (.goto (-58), 3) := by decide +kernel
theorem dX10_inForce_66 : decode cX10_inForce 66 = .ok (.iload_n 3, 1) := by decide +kernel
theorem dX10_inForce_67 : decode cX10_inForce 67 = .ok (.ireturn, 1) := by decide +kernel
theorem dX10_force_0 : decode cX10_force 0 = .ok (.aload_n 0, 1) := by decide +kernel
theorem dX10_force_1 : decode cX10_force 1 = .ok (.iconst 0, 1) := by decide +kernel
theorem dX10_force_2 : decode cX10_force 2 = .ok (.putfield 117, 3) := by decide +kernel
theorem dX10_force_5 : decode cX10_force 5 = .ok (.iload_n 1, 1) := by decide +kernel
theorem dX10_force_6 : decode cX10_force 6 = .ok (.iconst 0, 1) := by decide +kernel
theorem dX10_force_7 : decode cX10_force 7 = .ok (.sipush 20000, 3) := by decide +kernel
theorem dX10_force_10 : decode cX10_force 10 = .ok (.invokestatic 137, 3) := by decide +kernel
theorem dX10_force_13 : decode cX10_force 13 = .ok (.ifCond .eq 24, 3) := by decide +kernel
theorem dX10_force_16 : decode cX10_force 16 = .ok (.iload_n 2, 1) := by decide +kernel
theorem dX10_force_17 : decode cX10_force 17 = .ok (.iconst 0, 1) := by decide +kernel
theorem dX10_force_18 : decode cX10_force 18 = .ok (.aload_n 0, 1) := by decide +kernel
theorem dX10_force_19 : decode cX10_force 19 = .ok (.getfield 134, 3) := by decide +kernel
theorem dX10_force_22 : decode cX10_force 22 = .ok (.invokestatic 137, 3) := by decide +kernel
theorem dX10_force_25 : decode cX10_force 25 = .ok (.ifCond .eq 12, 3) := by decide +kernel
theorem dX10_force_28 : decode cX10_force 28 = .ok (.aload_n 0, 1) := by decide +kernel
theorem dX10_force_29 : decode cX10_force 29 = .ok (.iload_n 1, 1) := by decide +kernel
theorem dX10_force_30 : decode cX10_force 30 = .ok (.iload_n 2, 1) := by decide +kernel
theorem dX10_force_31 : decode cX10_force 31 = .ok (.invokevirtual 215, 3) := by decide +kernel
theorem dX10_force_34 : decode cX10_force 34 = .ok (.goto 4, 3) := by decide +kernel
theorem dX10_force_37 : decode cX10_force 37 = .ok (.iconst (-1), 1) := by decide +kernel
theorem dX10_force_38 : decode cX10_force 38 = .ok (.ireturn, 1) := by decide +kernel
theorem dX10_lets_0 : decode cX10_lets 0 = .ok (.iload_n 1, 1) := by decide +kernel
theorem dX10_lets_1 : decode cX10_lets 1 = .ok (.iconst (-1), 1) := by decide +kernel
theorem dX10_lets_2 : decode cX10_lets 2 = .ok (.if_icmp .eq 24, 3) := by decide +kernel
theorem dX10_lets_5 : decode cX10_lets 5 = .ok (.aload_n 0, 1) := by decide +kernel
theorem dX10_lets_6 : decode cX10_lets 6 = .ok (.aload_n 0, 1) := by decide +kernel
theorem dX10_lets_7 : decode cX10_lets 7 = .ok (.getfield 62, 3) := by decide +kernel
theorem dX10_lets_10 : decode cX10_lets 10 = .ok (.bipush 120, 2) := by decide +kernel
theorem dX10_lets_12 : decode cX10_lets 12 = .ok (.iload_n 1, 1) := by decide +kernel
theorem dX10_lets_13 : decode cX10_lets 13 = .ok (.imul, 1) := by decide +kernel
theorem dX10_lets_14 : decode cX10_lets 14 = .ok (.aload_n 0, 1) := by decide +kernel
theorem dX10_lets_15 : decode cX10_lets 15 = .ok (.getfield 65, 3) := by decide +kernel
theorem dX10_lets_18 : decode cX10_lets 18 = .ok (.iload_n 1, 1) := by decide +kernel
theorem dX10_lets_19 : decode cX10_lets 19 = .ok (.iaload, 1) := by decide +kernel
theorem dX10_lets_20 : decode cX10_lets 20 = .ok (.invokevirtual 208, 3) := by decide +kernel
theorem dX10_lets_23 : decode cX10_lets 23 = .ok (.ifCond .eq 7, 3) := by decide +kernel
theorem dX10_lets_26 : decode cX10_lets 26 = .ok (.iconst 1, 1) := by decide +kernel
theorem dX10_lets_27 : decode cX10_lets 27 = .ok (.goto 4, 3) := by decide +kernel
theorem dX10_lets_30 : decode cX10_lets 30 = .ok (.iconst 0, 1) := by decide +kernel
theorem dX10_lets_31 : decode cX10_lets 31 = .ok (.ireturn, 1) := by decide +kernel
theorem dX10_mayCome_0 : decode cX10_mayCome 0 = .ok (.aload_n 0, 1) := by decide +kernel
theorem dX10_mayCome_1 : decode cX10_mayCome 1 = .ok (.iload_n 1, 1) := by decide +kernel
theorem dX10_mayCome_2 : decode cX10_mayCome 2 = .ok (.iload_n 2, 1) := by decide +kernel
theorem dX10_mayCome_3 : decode cX10_mayCome 3 = .ok (.iload_n 3, 1) := by decide +kernel
theorem dX10_mayCome_4 : decode cX10_mayCome 4 = .ok (.invokevirtual 170, 3) := by decide +kernel
theorem dX10_mayCome_7 : decode cX10_mayCome 7 = .ok (.aload_n 0, 1) := by decide +kernel
theorem dX10_mayCome_8 : decode cX10_mayCome 8 = .ok (.aload_n 0, 1) := by decide +kernel
theorem dX10_mayCome_9 : decode cX10_mayCome 9 = .ok (.iload_n 2, 1) := by decide +kernel
theorem dX10_mayCome_10 : decode cX10_mayCome 10 = .ok (.iload_n 3, 1) := by decide +kernel
theorem dX10_mayCome_11 : decode cX10_mayCome 11 = .ok (.invokevirtual 215, 3) := by decide +kernel
theorem dX10_mayCome_14 : decode cX10_mayCome 14 = .ok (.invokevirtual 219, 3) := by decide +kernel
theorem dX10_mayCome_17 : decode cX10_mayCome 17 = .ok (.ifCond .eq 5, 3) := by decide +kernel
theorem dX10_mayCome_20 : decode cX10_mayCome 20 = .ok (.iconst 1, 1) := by decide +kernel
theorem dX10_mayCome_21 : decode cX10_mayCome 21 = .ok (.ireturn, 1) := by decide +kernel
theorem dX10_mayCome_22 : decode cX10_mayCome 22 = .ok (.aload_n 0, 1) := by decide +kernel
theorem dX10_mayCome_23 : decode cX10_mayCome 23 = .ok (.getfield 111, 3) := by decide +kernel
theorem dX10_mayCome_26 : decode cX10_mayCome 26 = .ok (.bipush 7, 2) := by decide +kernel
theorem dX10_mayCome_28 : decode cX10_mayCome 28 = .ok (.iaload, 1) := by decide +kernel
theorem dX10_mayCome_29 : decode cX10_mayCome 29 = .ok (.iconst (-1), 1) := by decide +kernel
theorem dX10_mayCome_30 : decode cX10_mayCome 30 = .ok (.if_icmp .eq 26, 3) := by decide +kernel
theorem dX10_mayCome_33 : decode cX10_mayCome 33 = .ok (.aload_n 0, 1) := by decide +kernel
theorem dX10_mayCome_34 : decode cX10_mayCome 34 = .ok (.aload_n 0, 1) := by decide +kernel
theorem dX10_mayCome_35 : decode cX10_mayCome 35 = .ok (.aload_n 0, 1) := by decide +kernel
theorem dX10_mayCome_36 : decode cX10_mayCome 36 = .ok (.getfield 111, 3) := by decide +kernel
theorem dX10_mayCome_39 : decode cX10_mayCome 39 = .ok (.bipush 7, 2) := by decide +kernel
theorem dX10_mayCome_41 : decode cX10_mayCome 41 = .ok (.iaload, 1) := by decide +kernel
theorem dX10_mayCome_42 : decode cX10_mayCome 42 = .ok (.iload_n 3, 1) := by decide +kernel
theorem dX10_mayCome_43 : decode cX10_mayCome 43 = .ok (.invokevirtual 215, 3) := by decide +kernel
theorem dX10_mayCome_46 : decode cX10_mayCome 46 = .ok (.invokevirtual 219, 3) := by decide +kernel
theorem dX10_mayCome_49 : decode cX10_mayCome 49 = .ok (.ifCond .eq 7, 3) := by decide +kernel
theorem dX10_mayCome_52 : decode cX10_mayCome 52 = .ok (.iconst 2, 1) := by decide +kernel
theorem dX10_mayCome_53 : decode cX10_mayCome 53 = .ok (.goto 4, 3) := by decide +kernel
theorem dX10_mayCome_56 : decode cX10_mayCome 56 = .ok (.iconst 0, 1) := by decide +kernel
theorem dX10_mayCome_57 : decode cX10_mayCome 57 = .ok (.ireturn, 1) := by decide +kernel
theorem dX10_may_0 : decode cX10_may 0 = .ok (.aload_n 0, 1) := by decide +kernel
theorem dX10_may_1 : decode cX10_may 1 = .ok (.iload_n 1, 1) := by decide +kernel
theorem dX10_may_2 : decode cX10_may 2 = .ok (.iload_n 2, 1) := by decide +kernel
theorem dX10_may_3 : decode cX10_may 3 = .ok (.iload_n 3, 1) := by decide +kernel
theorem dX10_may_4 : decode cX10_may 4 = .ok (.invokevirtual 167, 3) := by decide +kernel
theorem dX10_may_7 : decode cX10_may 7 = .ok (.ifCond .eq 13, 3) := by decide +kernel
theorem dX10_may_10 : decode cX10_may 10 = .ok (.aload_n 0, 1) := by decide +kernel
theorem dX10_may_11 : decode cX10_may 11 = .ok (.iload_n 1, 1) := by decide +kernel
theorem dX10_may_12 : decode cX10_may 12 = .ok (.iload_n 2, 1) := by decide +kernel
theorem dX10_may_13 : decode cX10_may 13 = .ok (.iload_n 3, 1) := by decide +kernel
theorem dX10_may_14 : decode cX10_may 14 = .ok (.invokevirtual 222, 3) := by decide +kernel
theorem dX10_may_17 : decode cX10_may 17 = .ok (.goto 4, 3) := by decide +kernel
theorem dX10_may_20 : decode cX10_may 20 = .ok (.iconst (-1), 1) := by decide +kernel
theorem dX10_may_21 : decode cX10_may 21 = .ok (.ireturn, 1) := by decide +kernel
theorem dX10_mayJudge_0 : decode cX10_mayJudge 0 = .ok (.aload_n 0, 1) := by decide +kernel
theorem dX10_mayJudge_1 : decode cX10_mayJudge 1 = .ok (.iload_n 1, 1) := by decide +kernel
theorem dX10_mayJudge_2 : decode cX10_mayJudge 2 = .ok (.invokevirtual 131, 3) := by decide +kernel
theorem dX10_mayJudge_5 : decode cX10_mayJudge 5 = .ok (.ifCond .eq 12, 3) := by decide +kernel
theorem dX10_mayJudge_8 : decode cX10_mayJudge 8 = .ok (.aload_n 0, 1) := by decide +kernel
theorem dX10_mayJudge_9 : decode cX10_mayJudge 9 = .ok (.iload_n 1, 1) := by decide +kernel
theorem dX10_mayJudge_10 : decode cX10_mayJudge 10 = .ok (.iload_n 2, 1) := by decide +kernel
theorem dX10_mayJudge_11 : decode cX10_mayJudge 11 = .ok (.invokevirtual 145, 3) := by decide +kernel
theorem dX10_mayJudge_14 : decode cX10_mayJudge 14 = .ok (.ifCond .eq 5, 3) := by decide +kernel
theorem dX10_mayJudge_17 : decode cX10_mayJudge 17 = .ok (.iconst 0, 1) := by decide +kernel
theorem dX10_mayJudge_18 : decode cX10_mayJudge 18 = .ok (.ireturn, 1) := by decide +kernel
theorem dX10_mayJudge_19 : decode cX10_mayJudge 19 = .ok (.iconst 0, 1) := by decide +kernel
theorem dX10_mayJudge_20 : decode cX10_mayJudge 20 = .ok (.istore_n 3, 1) := by decide +kernel
theorem dX10_mayJudge_21 : decode cX10_mayJudge 21 = .ok (.iconst 0, 1) := by decide +kernel
theorem dX10_mayJudge_22 : decode cX10_mayJudge 22 = .ok (.istore 4, 2) := by decide +kernel
theorem dX10_mayJudge_24 : decode cX10_mayJudge 24 = .ok (.iload 4, 2) := by decide +kernel
theorem dX10_mayJudge_26 : decode cX10_mayJudge 26 = .ok (.aload_n 0, 1) := by decide +kernel
theorem dX10_mayJudge_27 : decode cX10_mayJudge 27 = .ok (.getfield 148, 3) := by decide +kernel
theorem dX10_mayJudge_30 : decode cX10_mayJudge 30 = .ok (.if_icmp .ge 54, 3) := by decide +kernel
theorem dX10_mayJudge_33 : decode cX10_mayJudge 33 = .ok (.iload_n 3, 1) := by decide +kernel
theorem dX10_mayJudge_34 : decode cX10_mayJudge 34 = .ok (.ifCond .ne 38, 3) := by decide +kernel
theorem dX10_mayJudge_37 : decode cX10_mayJudge 37 = .ok (.aload_n 0, 1) := by decide +kernel
theorem dX10_mayJudge_38 : decode cX10_mayJudge 38 = .ok (.getfield 28, 3) := by decide +kernel
theorem dX10_mayJudge_41 : decode cX10_mayJudge 41 = .ok (.iload 4, 2) := by decide +kernel
theorem dX10_mayJudge_43 : decode cX10_mayJudge 43 = .ok (.iaload, 1) := by decide +kernel
theorem dX10_mayJudge_44 : decode cX10_mayJudge 44 = .ok (.iload_n 2, 1) := by decide +kernel
theorem dX10_mayJudge_45 : decode cX10_mayJudge 45 = .ok (.if_icmp .ne 31, 3) := by decide +kernel
theorem dX10_mayJudge_48 : decode cX10_mayJudge 48 = .ok (.aload_n 0, 1) := by decide +kernel
theorem dX10_mayJudge_49 : decode cX10_mayJudge 49 = .ok (.getfield 31, 3) := by decide +kernel
theorem dX10_mayJudge_52 : decode cX10_mayJudge 52 = .ok (.iload 4, 2) := by decide +kernel
theorem dX10_mayJudge_54 : decode cX10_mayJudge 54 = .ok (.iaload, 1) := by decide +kernel
theorem dX10_mayJudge_55 : decode cX10_mayJudge 55 = .ok (.iload_n 1, 1) := by decide +kernel
theorem dX10_mayJudge_56 : decode cX10_mayJudge 56 = .ok (.if_icmp .ne 20, 3) := by decide +kernel
theorem dX10_mayJudge_59 : decode cX10_mayJudge 59 = .ok (.aload_n 0, 1) := by decide +kernel
theorem dX10_mayJudge_60 : decode cX10_mayJudge 60 = .ok (.iload 4, 2) := by decide +kernel
theorem dX10_mayJudge_62 : decode cX10_mayJudge 62 = .ok (.aload_n 0, 1) := by decide +kernel
theorem dX10_mayJudge_63 : decode cX10_mayJudge 63 = .ok (.getfield 134, 3) := by decide +kernel
theorem dX10_mayJudge_66 : decode cX10_mayJudge 66 = .ok (.invokevirtual 154, 3) := by decide +kernel
theorem dX10_mayJudge_69 : decode cX10_mayJudge 69 = .ok (.ifCond .eq 7, 3) := by decide +kernel
theorem dX10_mayJudge_72 : decode cX10_mayJudge 72 = .ok (.iconst 1, 1) := by decide +kernel
theorem dX10_mayJudge_73 : decode cX10_mayJudge 73 = .ok (.goto 4, 3) := by decide +kernel
theorem dX10_mayJudge_76 : decode cX10_mayJudge 76 = .ok (.iconst 0, 1) := by decide +kernel
theorem dX10_mayJudge_77 : decode cX10_mayJudge 77 = .ok (.istore_n 3, 1) := by decide +kernel
theorem dX10_mayJudge_78 : decode cX10_mayJudge 78 = .ok (.iinc 4 1, 3) := by decide +kernel
theorem dX10_mayJudge_81 : decode cX10_mayJudge 81 = .ok (.goto (-57), 3) := by decide +kernel
theorem dX10_mayJudge_84 : decode cX10_mayJudge 84 = .ok (.iload_n 3, 1) := by decide +kernel
theorem dX10_mayJudge_85 : decode cX10_mayJudge 85 = .ok (.ifCond .ne 7, 3) := by decide +kernel
theorem dX10_mayJudge_88 : decode cX10_mayJudge 88 = .ok (.iconst 1, 1) := by decide +kernel
theorem dX10_mayJudge_89 : decode cX10_mayJudge 89 = .ok (.goto 4, 3) := by decide +kernel
theorem dX10_mayJudge_92 : decode cX10_mayJudge 92 = .ok (.iconst 0, 1) := by decide +kernel
theorem dX10_mayJudge_93 : decode cX10_mayJudge 93 = .ok (.ireturn, 1) := by decide +kernel
theorem dX10_piece_0 : decode cX10_piece 0 = .ok (.aload_n 0, 1) := by decide +kernel
theorem dX10_piece_1 : decode cX10_piece 1 = .ok (.iconst 0, 1) := by decide +kernel
theorem dX10_piece_2 : decode cX10_piece 2 = .ok (.putfield 117, 3) := by decide +kernel
theorem dX10_piece_5 : decode cX10_piece 5 = .ok (.aload_n 0, 1) := by decide +kernel
theorem dX10_piece_6 : decode cX10_piece 6 = .ok (.getfield 161, 3) := by decide +kernel
theorem dX10_piece_9 : decode cX10_piece 9 = .ok (.bipush 40, 2) := by decide +kernel
theorem dX10_piece_11 : decode cX10_piece 11 = .ok (.if_icmp .eq 35, 3) := by decide +kernel
theorem dX10_piece_14 : decode cX10_piece 14 = .ok (.aload_n 0, 1) := by decide +kernel
theorem dX10_piece_15 : decode cX10_piece 15 = .ok (.iload_n 1, 1) := by decide +kernel
theorem dX10_piece_16 : decode cX10_piece 16 = .ok (.invokevirtual 128, 3) := by decide +kernel
theorem dX10_piece_19 : decode cX10_piece 19 = .ok (.ifCond .eq 27, 3) := by decide +kernel
theorem dX10_piece_22 : decode cX10_piece 22 = .ok (.aload_n 0, 1) := by decide +kernel
theorem dX10_piece_23 : decode cX10_piece 23 = .ok (.iload_n 1, 1) := by decide +kernel
theorem dX10_piece_24 : decode cX10_piece 24 = .ok (.invokevirtual 131, 3) := by decide +kernel
theorem dX10_piece_27 : decode cX10_piece 27 = .ok (.ifCond .ne 19, 3) := by decide +kernel
theorem dX10_piece_30 : decode cX10_piece 30 = .ok (.aload_n 0, 1) := by decide +kernel
theorem dX10_piece_31 : decode cX10_piece 31 = .ok (.iload_n 1, 1) := by decide +kernel
theorem dX10_piece_32 : decode cX10_piece 32 = .ok (.aload_n 0, 1) := by decide +kernel
theorem dX10_piece_33 : decode cX10_piece 33 = .ok (.getfield 134, 3) := by decide +kernel
theorem dX10_piece_36 : decode cX10_piece 36 = .ok (.aload_n 0, 1) := by decide +kernel
theorem dX10_piece_37 : decode cX10_piece 37 = .ok (.getfield 134, 3) := by decide +kernel
theorem dX10_piece_40 : decode cX10_piece 40 = .ok (.invokevirtual 222, 3) := by decide +kernel
theorem dX10_piece_43 : decode cX10_piece 43 = .ok (.ifCond .ne 5, 3) := by decide +kernel
theorem dX10_piece_46 : decode cX10_piece 46 = .ok (.iconst (-1), 1) := by decide +kernel
theorem dX10_piece_47 : decode cX10_piece 47 = .ok (.ireturn, 1) := by decide +kernel
theorem dX10_piece_48 : decode cX10_piece 48 = .ok (.iconst 0, 1) := by decide +kernel
theorem dX10_piece_49 : decode cX10_piece 49 = .ok (.istore 4, 2) := by decide +kernel
theorem dX10_piece_51 : decode cX10_piece 51 = .ok (.iload 4, 2) := by decide +kernel
theorem dX10_piece_53 : decode cX10_piece 53 = .ok (.aload_n 0, 1) := by decide +kernel
theorem dX10_piece_54 : decode cX10_piece 54 = .ok (.getfield 161, 3) := by decide +kernel
theorem dX10_piece_57 : decode cX10_piece 57 = .ok (.if_icmp .ge 33, 3) := by decide +kernel
theorem dX10_piece_60 : decode cX10_piece 60 = .ok (.aload_n 0, 1) := by decide +kernel
theorem dX10_piece_61 : decode cX10_piece 61 = .ok (.getfield 74, 3) := by decide +kernel
theorem dX10_piece_64 : decode cX10_piece 64 = .ok (.iload 4, 2) := by decide +kernel
theorem dX10_piece_66 : decode cX10_piece 66 = .ok (.iaload, 1) := by decide +kernel
theorem dX10_piece_67 : decode cX10_piece 67 = .ok (.iload_n 1, 1) := by decide +kernel
theorem dX10_piece_68 : decode cX10_piece 68 = .ok (.if_icmp .ne 16, 3) := by decide +kernel
theorem dX10_piece_71 : decode cX10_piece 71 = .ok (.aload_n 0, 1) := by decide +kernel
theorem dX10_piece_72 : decode cX10_piece 72 = .ok (.getfield 77, 3) := by decide +kernel
theorem dX10_piece_75 : decode cX10_piece 75 = .ok (.iload 4, 2) := by decide +kernel
theorem dX10_piece_77 : decode cX10_piece 77 = .ok (.iaload, 1) := by decide +kernel
theorem dX10_piece_78 : decode cX10_piece 78 = .ok (.iconst (-1), 1) := by decide +kernel
theorem dX10_piece_79 : decode cX10_piece 79 = .ok (.if_icmp .ne 5, 3) := by decide +kernel
theorem dX10_piece_82 : decode cX10_piece 82 = .ok (.iconst (-1), 1) := by decide +kernel
theorem dX10_piece_83 : decode cX10_piece 83 = .ok (.ireturn, 1) := by decide +kernel
theorem dX10_piece_84 : decode cX10_piece 84 = .ok (.iinc 4 1, 3) := by decide +kernel
theorem dX10_piece_87 : decode cX10_piece 87 = .ok (.goto (-36), 3) := by decide +kernel
theorem dX10_piece_90 : decode cX10_piece 90 = .ok (.bipush 30, 2) := by decide +kernel
theorem dX10_piece_92 : decode cX10_piece 92 = .ok (.newarray .boolean, 2) := by decide +kernel
theorem dX10_piece_94 : decode cX10_piece 94 = .ok (.astore 4, 2) := by decide +kernel
theorem dX10_piece_96 : decode cX10_piece 96 = .ok (.iconst 0, 1) := by decide +kernel
theorem dX10_piece_97 : decode cX10_piece 97 = .ok (.istore 5, 2) := by decide +kernel
theorem dX10_piece_99 : decode cX10_piece 99 = .ok (.iconst 0, 1) := by decide +kernel
theorem dX10_piece_100 : decode cX10_piece 100 = .ok (.istore 6, 2) := by decide +kernel
theorem dX10_piece_102 : decode cX10_piece 102 = .ok (.iload 6, 2) := by decide +kernel
theorem dX10_piece_104 : decode cX10_piece 104 = .ok (.aload_n 0, 1) := by decide +kernel
theorem dX10_piece_105 : decode cX10_piece 105 = .ok (.getfield 121, 3) := by decide +kernel
theorem dX10_piece_108 : decode cX10_piece 108 = .ok (.if_icmp .ge 39, 3) := by decide +kernel
theorem dX10_piece_111 : decode cX10_piece 111 = .ok (.aload 4, 2) := by decide +kernel
theorem dX10_piece_113 : decode cX10_piece 113 = .ok (.iload 6, 2) := by decide +kernel
theorem dX10_piece_115 : decode cX10_piece 115 = .ok (.aload_n 0, 1) := by decide +kernel
theorem dX10_piece_116 : decode cX10_piece 116 = .ok (.iload 6, 2) := by decide +kernel
theorem dX10_piece_118 : decode cX10_piece 118 = .ok (.iload_n 1, 1) := by decide +kernel
theorem dX10_piece_119 : decode cX10_piece 119 = .ok (.invokevirtual 226, 3) := by decide +kernel
theorem dX10_piece_122 : decode cX10_piece 122 = .ok (.bastore, 1) := by decide +kernel
theorem dX10_piece_123 : decode cX10_piece 123 = .ok (.iload 5, 2) := by decide +kernel
theorem dX10_piece_125 : decode cX10_piece 125 = .ok (.aload 4, 2) := by decide +kernel
theorem dX10_piece_127 : decode cX10_piece 127 = .ok (.iload 6, 2) := by decide +kernel
theorem dX10_piece_129 : decode cX10_piece 129 = .ok (.baload, 1) := by decide +kernel
theorem dX10_piece_130 : decode cX10_piece 130 = .ok (.ifCond .eq 7, 3) := by decide +kernel
theorem dX10_piece_133 : decode cX10_piece 133 = .ok (.iconst 1, 1) := by decide +kernel
theorem dX10_piece_134 : decode cX10_piece 134 = .ok (.goto 4, 3) := by decide +kernel
theorem dX10_piece_137 : decode cX10_piece 137 = .ok (.iconst 0, 1) := by decide +kernel
theorem dX10_piece_138 : decode cX10_piece 138 = .ok (.iadd, 1) := by decide +kernel
theorem dX10_piece_139 : decode cX10_piece 139 = .ok (.istore 5, 2) := by decide +kernel
theorem dX10_piece_141 : decode cX10_piece 141 = .ok (.iinc 6 1, 3) := by decide +kernel
theorem dX10_piece_144 : decode cX10_piece 144 = .ok (.goto (-42), 3) := by decide +kernel
theorem dX10_piece_147 : decode cX10_piece 147 = .ok (.iload 5, 2) := by decide +kernel
theorem dX10_piece_149 : decode cX10_piece 149 = .ok (.iconst 3, 1) := by decide +kernel
theorem dX10_piece_150 : decode cX10_piece 150 = .ok (.if_icmp .ge 5, 3) := by decide +kernel
theorem dX10_piece_153 : decode cX10_piece 153 = .ok (.iconst (-1), 1) := by decide +kernel
theorem dX10_piece_154 : decode cX10_piece 154 = .ok (.ireturn, 1) := by decide +kernel
theorem dX10_piece_155 : decode cX10_piece 155 = .ok (.lload_n 2, 1) := by decide +kernel
theorem dX10_piece_156 : decode cX10_piece 156 = .ok (.lstore 6, 2) := by decide +kernel
theorem dX10_piece_158 : decode cX10_piece 158 = .ok (.iconst 0, 1) := by decide +kernel
theorem dX10_piece_159 : decode cX10_piece 159 = .ok (.istore 8, 2) := by decide +kernel
theorem dX10_piece_161 : decode cX10_piece 161 = .ok (.iload 8, 2) := by decide +kernel
theorem dX10_piece_163 : decode cX10_piece 163 = .ok (.iconst 3, 1) := by decide +kernel
theorem dX10_piece_164 : decode cX10_piece 164 = .ok (.if_icmp .ge 91, 3) := by decide +kernel
theorem dX10_piece_167 : decode cX10_piece 167 = .ok (.lload 6, 2) := by decide +kernel
theorem dX10_piece_169 : decode cX10_piece 169 = .ok (.ldc2_w 229, 3) := by decide +kernel
theorem dX10_piece_172 : decode cX10_piece 172 = .ok (.lmul, 1) := by decide +kernel
theorem dX10_piece_173 : decode cX10_piece 173 = .ok (.ldc2_w 231, 3) := by decide +kernel
theorem dX10_piece_176 : decode cX10_piece 176 = .ok (.ladd, 1) := by decide +kernel
theorem dX10_piece_177 : decode cX10_piece 177 = .ok (.lstore 6, 2) := by decide +kernel
theorem dX10_piece_179 : decode cX10_piece 179 = .ok (.lload 6, 2) := by decide +kernel
theorem dX10_piece_181 : decode cX10_piece 181 = .ok (.bipush 33, 2) := by decide +kernel
theorem dX10_piece_183 : decode cX10_piece 183 = .ok (.lushr, 1) := by decide +kernel
theorem dX10_piece_184 : decode cX10_piece 184 = .ok (.iload 5, 2) := by decide +kernel
theorem dX10_piece_186 : decode cX10_piece 186 = .ok (.i2l, 1) := by decide +kernel
theorem dX10_piece_187 : decode cX10_piece 187 = .ok (.lrem, 1) := by decide +kernel
theorem dX10_piece_188 : decode cX10_piece 188 = .ok (.l2i, 1) := by decide +kernel
theorem dX10_piece_189 : decode cX10_piece 189 = .ok (.istore 9, 2) := by decide +kernel
theorem dX10_piece_191 : decode cX10_piece 191 = .ok (.iconst 0, 1) := by decide +kernel
theorem dX10_piece_192 : decode cX10_piece 192 = .ok (.istore 10, 2) := by decide +kernel
theorem dX10_piece_194 : decode cX10_piece 194 = .ok (.aload 4, 2) := by decide +kernel
theorem dX10_piece_196 : decode cX10_piece 196 = .ok (.iload 10, 2) := by decide +kernel
theorem dX10_piece_198 : decode cX10_piece 198 = .ok (.baload, 1) := by decide +kernel
theorem dX10_piece_199 : decode cX10_piece 199 = .ok (.ifCond .eq 8, 3) := by decide +kernel
theorem dX10_piece_202 : decode cX10_piece 202 = .ok (.iload 9, 2) := by decide +kernel
theorem dX10_piece_204 : decode cX10_piece 204 = .ok (.ifCond .le 20, 3) := by decide +kernel
theorem dX10_piece_207 : decode cX10_piece 207 = .ok (.aload 4, 2) := by decide +kernel
theorem dX10_piece_209 : decode cX10_piece 209 = .ok (.iload 10, 2) := by decide +kernel
theorem dX10_piece_211 : decode cX10_piece 211 = .ok (.baload, 1) := by decide +kernel
theorem dX10_piece_212 : decode cX10_piece 212 = .ok (.ifCond .eq 6, 3) := by decide +kernel
theorem dX10_piece_215 : decode cX10_piece 215 = .ok (.iinc 9 (-1), 3) := by decide +kernel
theorem dX10_piece_218 : decode cX10_piece 218 = .ok (.iinc 10 1, 3) := by decide +kernel
theorem dX10_piece_221 : decode cX10_piece 221 = .ok (.goto (-27), 3) := by decide +kernel
theorem dX10_piece_224 : decode cX10_piece 224 = .ok (.aload 4, 2) := by decide +kernel
theorem dX10_piece_226 : decode cX10_piece 226 = .ok (.iload 10, 2) := by decide +kernel
theorem dX10_piece_228 : decode cX10_piece 228 = .ok (.iconst 0, 1) := by decide +kernel
theorem dX10_piece_229 : decode cX10_piece 229 = .ok (.bastore, 1) := by decide +kernel
theorem dX10_piece_230 : decode cX10_piece 230 = .ok (.iinc 5 (-1), 3) := by decide +kernel
theorem dX10_piece_233 : decode cX10_piece 233 = .ok (.aload_n 0, 1) := by decide +kernel
theorem dX10_piece_234 : decode cX10_piece 234 = .ok (.getfield 86, 3) := by decide +kernel
theorem dX10_piece_237 : decode cX10_piece 237 = .ok (.iconst 3, 1) := by decide +kernel
theorem dX10_piece_238 : decode cX10_piece 238 = .ok (.aload_n 0, 1) := by decide +kernel
theorem dX10_piece_239 : decode cX10_piece 239 = .ok (.getfield 161, 3) := by decide +kernel
theorem dX10_piece_242 : decode cX10_piece 242 = .ok (.imul, 1) := by decide +kernel
theorem dX10_piece_243 : decode cX10_piece 243 = .ok (.iload 8, 2) := by decide +kernel
theorem dX10_piece_245 : decode cX10_piece 245 = .ok (.iadd, 1) := by decide +kernel
theorem dX10_piece_246 : decode cX10_piece 246 = .ok (.iload 10, 2) := by decide +kernel
theorem dX10_piece_248 : decode cX10_piece 248 = .ok (.iastore, 1) := by decide +kernel
theorem dX10_piece_249 : decode cX10_piece 249 = .ok (.iinc 8 1, 3) := by decide +kernel
theorem dX10_piece_252 : decode cX10_piece 252 = .ok (.goto (-91), 3) := by decide +kernel
theorem dX10_piece_255 : decode cX10_piece 255 = .ok (.aload_n 0, 1) := by decide +kernel
theorem dX10_piece_256 : decode cX10_piece 256 = .ok (.getfield 74, 3) := by decide +kernel
theorem dX10_piece_259 : decode cX10_piece 259 = .ok (.aload_n 0, 1) := by decide +kernel
theorem dX10_piece_260 : decode cX10_piece 260 = .ok (.getfield 161, 3) := by decide +kernel
theorem dX10_piece_263 : decode cX10_piece 263 = .ok (.iload_n 1, 1) := by decide +kernel
theorem dX10_piece_264 : decode cX10_piece 264 = .ok (.iastore, 1) := by decide +kernel
theorem dX10_piece_265 : decode cX10_piece 265 = .ok (.aload_n 0, 1) := by decide +kernel
theorem dX10_piece_266 : decode cX10_piece 266 = .ok (.getfield 77, 3) := by decide +kernel
theorem dX10_piece_269 : decode cX10_piece 269 = .ok (.aload_n 0, 1) := by decide +kernel
theorem dX10_piece_270 : decode cX10_piece 270 = .ok (.getfield 161, 3) := by decide +kernel
theorem dX10_piece_273 : decode cX10_piece 273 = .ok (.iconst (-1), 1) := by decide +kernel
theorem dX10_piece_274 : decode cX10_piece 274 = .ok (.iastore, 1) := by decide +kernel
theorem dX10_piece_275 : decode cX10_piece 275 = .ok (.aload_n 0, 1) := by decide +kernel
theorem dX10_piece_276 : decode cX10_piece 276 = .ok (.getfield 80, 3) := by decide +kernel
theorem dX10_piece_279 : decode cX10_piece 279 = .ok (.aload_n 0, 1) := by decide +kernel
theorem dX10_piece_280 : decode cX10_piece 280 = .ok (.getfield 161, 3) := by decide +kernel
theorem dX10_piece_283 : decode cX10_piece 283 = .ok (.iconst (-1), 1) := by decide +kernel
theorem dX10_piece_284 : decode cX10_piece 284 = .ok (.iastore, 1) := by decide +kernel
theorem dX10_piece_285 : decode cX10_piece 285 = .ok (.aload_n 0, 1) := by decide +kernel
theorem dX10_piece_286 : decode cX10_piece 286 = .ok (.getfield 83, 3) := by decide +kernel
theorem dX10_piece_289 : decode cX10_piece 289 = .ok (.aload_n 0, 1) := by decide +kernel
theorem dX10_piece_290 : decode cX10_piece 290 = .ok (.getfield 161, 3) := by decide +kernel
theorem dX10_piece_293 : decode cX10_piece 293 = .ok (.iconst (-1), 1) := by decide +kernel
theorem dX10_piece_294 : decode cX10_piece 294 = .ok (.iastore, 1) := by decide +kernel
theorem dX10_piece_295 : decode cX10_piece 295 = .ok (.iconst 0, 1) := by decide +kernel
theorem dX10_piece_296 : decode cX10_piece 296 = .ok (.istore 8, 2) := by decide +kernel
theorem dX10_piece_298 : decode cX10_piece 298 = .ok (.iload 8, 2) := by decide +kernel
theorem dX10_piece_300 : decode cX10_piece 300 = .ok (.bipush 12, 2) := by decide +kernel
theorem dX10_piece_302 : decode cX10_piece 302 = .ok (.if_icmp .ge 25, 3) := by decide +kernel
theorem dX10_piece_305 : decode cX10_piece 305 = .ok (.aload_n 0, 1) := by decide +kernel
theorem dX10_piece_306 : decode cX10_piece 306 = .ok (.getfield 89, 3) := by decide +kernel
theorem dX10_piece_309 : decode cX10_piece 309 = .ok (.bipush 12, 2) := by decide +kernel
theorem dX10_piece_311 : decode cX10_piece 311 = .ok (.aload_n 0, 1) := by decide +kernel
theorem dX10_piece_312 : decode cX10_piece 312 = .ok (.getfield 161, 3) := by decide +kernel
theorem dX10_piece_315 : decode cX10_piece 315 = .ok (.imul, 1) := by decide +kernel
theorem dX10_piece_316 : decode cX10_piece 316 = .ok (.iload 8, 2) := by decide +kernel
theorem dX10_piece_318 : decode cX10_piece 318 = .ok (.iadd, 1) := by decide +kernel
theorem dX10_piece_319 : decode cX10_piece 319 = .ok (.iconst (-1), 1) := by decide +kernel
theorem dX10_piece_320 : decode cX10_piece 320 = .ok (.iastore, 1) := by decide +kernel
theorem dX10_piece_321 : decode cX10_piece 321 = .ok (.iinc 8 1, 3) := by decide +kernel
theorem dX10_piece_324 : decode cX10_piece 324 = .ok (.goto (-26), 3) := by decide +kernel
theorem dX10_piece_327 : decode cX10_piece 327 = .ok (.aload_n 0, 1) := by decide +kernel
theorem dX10_piece_328 : decode cX10_piece 328 = .ok (.dup, 1) := by decide +kernel
theorem dX10_piece_329 : decode cX10_piece 329 = .ok (.getfield 161, 3) := by decide +kernel
theorem dX10_piece_332 : decode cX10_piece 332 = .ok (.iconst 1, 1) := by decide +kernel
theorem dX10_piece_333 : decode cX10_piece 333 = .ok (.iadd, 1) := by decide +kernel
theorem dX10_piece_334 : decode cX10_piece 334 = .ok (.putfield 161, 3) := by decide +kernel
theorem dX10_piece_337 : decode cX10_piece 337 = .ok (.aload_n 0, 1) := by decide +kernel
theorem dX10_piece_338 : decode cX10_piece 338 = .ok (.getfield 161, 3) := by decide +kernel
theorem dX10_piece_341 : decode cX10_piece 341 = .ok (.iconst 1, 1) := by decide +kernel
theorem dX10_piece_342 : decode cX10_piece 342 = .ok (.isub, 1) := by decide +kernel
theorem dX10_piece_343 : decode cX10_piece 343 = .ok (.ireturn, 1) := by decide +kernel
theorem dX10_isPiece_0 : decode cX10_isPiece 0 = .ok (.iload_n 1, 1) := by decide +kernel
theorem dX10_isPiece_1 : decode cX10_isPiece 1 = .ok (.ifCond .lt 15, 3) := by decide +kernel
theorem dX10_isPiece_4 : decode cX10_isPiece 4 = .ok (.iload_n 1, 1) := by decide +kernel
theorem dX10_isPiece_5 : decode cX10_isPiece 5 = .ok (.aload_n 0, 1) := by decide +kernel
theorem dX10_isPiece_6 : decode cX10_isPiece 6 = .ok (.getfield 161, 3) := by decide +kernel
theorem dX10_isPiece_9 : decode cX10_isPiece 9 = .ok (.if_icmp .ge 7, 3) := by decide +kernel
theorem dX10_isPiece_12 : decode cX10_isPiece 12 = .ok (.iconst 1, 1) := by decide +kernel
theorem dX10_isPiece_13 : decode cX10_isPiece 13 = .ok (.goto 4, 3) := by decide +kernel
theorem dX10_isPiece_16 : decode cX10_isPiece 16 = .ok (.iconst 0, 1) := by decide +kernel
theorem dX10_isPiece_17 : decode cX10_isPiece 17 = .ok (.ireturn, 1) := by decide +kernel
theorem dX10_judge_0 : decode cX10_judge 0 = .ok (.aload_n 0, 1) := by decide +kernel
theorem dX10_judge_1 : decode cX10_judge 1 = .ok (.iconst 0, 1) := by decide +kernel
theorem dX10_judge_2 : decode cX10_judge 2 = .ok (.putfield 117, 3) := by decide +kernel
theorem dX10_judge_5 : decode cX10_judge 5 = .ok (.aload_n 0, 1) := by decide +kernel
theorem dX10_judge_6 : decode cX10_judge 6 = .ok (.iload_n 1, 1) := by decide +kernel
theorem dX10_judge_7 : decode cX10_judge 7 = .ok (.invokevirtual 233, 3) := by decide +kernel
theorem dX10_judge_10 : decode cX10_judge 10 = .ok (.ifCond .eq 25, 3) := by decide +kernel
theorem dX10_judge_13 : decode cX10_judge 13 = .ok (.iload_n 2, 1) := by decide +kernel
theorem dX10_judge_14 : decode cX10_judge 14 = .ok (.iconst 0, 1) := by decide +kernel
theorem dX10_judge_15 : decode cX10_judge 15 = .ok (.iconst 2, 1) := by decide +kernel
theorem dX10_judge_16 : decode cX10_judge 16 = .ok (.invokestatic 137, 3) := by decide +kernel
theorem dX10_judge_19 : decode cX10_judge 19 = .ok (.ifCond .eq 16, 3) := by decide +kernel
theorem dX10_judge_22 : decode cX10_judge 22 = .ok (.aload_n 0, 1) := by decide +kernel
theorem dX10_judge_23 : decode cX10_judge 23 = .ok (.getfield 86, 3) := by decide +kernel
theorem dX10_judge_26 : decode cX10_judge 26 = .ok (.iconst 3, 1) := by decide +kernel
theorem dX10_judge_27 : decode cX10_judge 27 = .ok (.iload_n 1, 1) := by decide +kernel
theorem dX10_judge_28 : decode cX10_judge 28 = .ok (.imul, 1) := by decide +kernel
theorem dX10_judge_29 : decode cX10_judge 29 = .ok (.iload_n 2, 1) := by decide +kernel
theorem dX10_judge_30 : decode cX10_judge 30 = .ok (.iadd, 1) := by decide +kernel
theorem dX10_judge_31 : decode cX10_judge 31 = .ok (.iaload, 1) := by decide +kernel
theorem dX10_judge_32 : decode cX10_judge 32 = .ok (.goto 4, 3) := by decide +kernel
theorem dX10_judge_35 : decode cX10_judge 35 = .ok (.iconst (-1), 1) := by decide +kernel
theorem dX10_judge_36 : decode cX10_judge 36 = .ok (.ireturn, 1) := by decide +kernel
theorem dX10_mark__0 : decode cX10_mark_ 0 = .ok (.aload_n 0, 1) := by decide +kernel
theorem dX10_mark__1 : decode cX10_mark_ 1 = .ok (.iconst 0, 1) := by decide +kernel
theorem dX10_mark__2 : decode cX10_mark_ 2 = .ok (.putfield 117, 3) := by decide +kernel
theorem dX10_mark__5 : decode cX10_mark_ 5 = .ok (.aload_n 0, 1) := by decide +kernel
theorem dX10_mark__6 : decode cX10_mark_ 6 = .ok (.iload_n 1, 1) := by decide +kernel
theorem dX10_mark__7 : decode cX10_mark_ 7 = .ok (.invokevirtual 233, 3) := by decide +kernel
theorem dX10_mark__10 : decode cX10_mark_ 10 = .ok (.ifCond .eq 42, 3) := by decide +kernel
theorem dX10_mark__13 : decode cX10_mark_ 13 = .ok (.iload_n 2, 1) := by decide +kernel
theorem dX10_mark__14 : decode cX10_mark_ 14 = .ok (.iconst 0, 1) := by decide +kernel
theorem dX10_mark__15 : decode cX10_mark_ 15 = .ok (.iconst 2, 1) := by decide +kernel
theorem dX10_mark__16 : decode cX10_mark_ 16 = .ok (.invokestatic 137, 3) := by decide +kernel
theorem dX10_mark__19 : decode cX10_mark_ 19 = .ok (.ifCond .eq 33, 3) := by decide +kernel
theorem dX10_mark__22 : decode cX10_mark_ 22 = .ok (.iload_n 3, 1) := by decide +kernel
theorem dX10_mark__23 : decode cX10_mark_ 23 = .ok (.iconst 0, 1) := by decide +kernel
theorem dX10_mark__24 : decode cX10_mark_ 24 = .ok (.iconst 3, 1) := by decide +kernel
theorem dX10_mark__25 : decode cX10_mark_ 25 = .ok (.invokestatic 137, 3) := by decide +kernel
theorem dX10_mark__28 : decode cX10_mark_ 28 = .ok (.ifCond .eq 24, 3) := by decide +kernel
theorem dX10_mark__31 : decode cX10_mark_ 31 = .ok (.iload 4, 2) := by decide +kernel
theorem dX10_mark__33 : decode cX10_mark_ 33 = .ok (.iconst 0, 1) := by decide +kernel
theorem dX10_mark__34 : decode cX10_mark_ 34 = .ok (.bipush 10, 2) := by decide +kernel
theorem dX10_mark__36 : decode cX10_mark_ 36 = .ok (.invokestatic 137, 3) := by decide +kernel
theorem dX10_mark__39 : decode cX10_mark_ 39 = .ok (.ifCond .eq 13, 3) := by decide +kernel
theorem dX10_mark__42 : decode cX10_mark_ 42 = .ok (.aload_n 0, 1) := by decide +kernel
theorem dX10_mark__43 : decode cX10_mark_ 43 = .ok (.getfield 77, 3) := by decide +kernel
theorem dX10_mark__46 : decode cX10_mark_ 46 = .ok (.iload_n 1, 1) := by decide +kernel
theorem dX10_mark__47 : decode cX10_mark_ 47 = .ok (.iaload, 1) := by decide +kernel
theorem dX10_mark__48 : decode cX10_mark_ 48 = .ok (.iconst (-1), 1) := by decide +kernel
theorem dX10_mark__49 : decode cX10_mark_ 49 = .ok (.if_icmp .eq 5, 3) := by decide +kernel
theorem dX10_mark__52 : decode cX10_mark_ 52 = .ok (.iconst 0, 1) := by decide +kernel
theorem dX10_mark__53 : decode cX10_mark_ 53 = .ok (.ireturn, 1) := by decide +kernel
theorem dX10_mark__54 : decode cX10_mark_ 54 = .ok (.aload_n 0, 1) := by decide +kernel
theorem dX10_mark__55 : decode cX10_mark_ 55 = .ok (.getfield 89, 3) := by decide +kernel
theorem dX10_mark__58 : decode cX10_mark_ 58 = .ok (.bipush 12, 2) := by decide +kernel
theorem dX10_mark__60 : decode cX10_mark_ 60 = .ok (.iload_n 1, 1) := by decide +kernel
theorem dX10_mark__61 : decode cX10_mark_ 61 = .ok (.imul, 1) := by decide +kernel
theorem dX10_mark__62 : decode cX10_mark_ 62 = .ok (.iconst 4, 1) := by decide +kernel
theorem dX10_mark__63 : decode cX10_mark_ 63 = .ok (.iload_n 2, 1) := by decide +kernel
theorem dX10_mark__64 : decode cX10_mark_ 64 = .ok (.imul, 1) := by decide +kernel
theorem dX10_mark__65 : decode cX10_mark_ 65 = .ok (.iadd, 1) := by decide +kernel
theorem dX10_mark__66 : decode cX10_mark_ 66 = .ok (.iload_n 3, 1) := by decide +kernel
theorem dX10_mark__67 : decode cX10_mark_ 67 = .ok (.iadd, 1) := by decide +kernel
theorem dX10_mark__68 : decode cX10_mark_ 68 = .ok (.iload 4, 2) := by decide +kernel
theorem dX10_mark__70 : decode cX10_mark_ 70 = .ok (.iastore, 1) := by decide +kernel
theorem dX10_mark__71 : decode cX10_mark_ 71 = .ok (.iconst 0, 1) := by decide +kernel
theorem dX10_mark__72 : decode cX10_mark_ 72 = .ok (.istore 5, 2) := by decide +kernel
theorem dX10_mark__74 : decode cX10_mark_ 74 = .ok (.iconst (-1), 1) := by decide +kernel
theorem dX10_mark__75 : decode cX10_mark_ 75 = .ok (.istore 6, 2) := by decide +kernel
theorem dX10_mark__77 : decode cX10_mark_ 77 = .ok (.iconst 0, 1) := by decide +kernel
theorem dX10_mark__78 : decode cX10_mark_ 78 = .ok (.istore 7, 2) := by decide +kernel
theorem dX10_mark__80 : decode cX10_mark_ 80 = .ok (.iload 7, 2) := by decide +kernel
theorem dX10_mark__82 : decode cX10_mark_ 82 = .ok (.iconst 4, 1) := by decide +kernel
theorem dX10_mark__83 : decode cX10_mark_ 83 = .ok (.if_icmp .ge 85, 3) := by decide +kernel
theorem dX10_mark__86 : decode cX10_mark_ 86 = .ok (.iconst 0, 1) := by decide +kernel
theorem dX10_mark__87 : decode cX10_mark_ 87 = .ok (.istore 8, 2) := by decide +kernel
theorem dX10_mark__89 : decode cX10_mark_ 89 = .ok (.iconst 0, 1) := by decide +kernel
theorem dX10_mark__90 : decode cX10_mark_ 90 = .ok (.istore 9, 2) := by decide +kernel
theorem dX10_mark__92 : decode cX10_mark_ 92 = .ok (.iload 9, 2) := by decide +kernel
theorem dX10_mark__94 : decode cX10_mark_ 94 = .ok (.iconst 3, 1) := by decide +kernel
theorem dX10_mark__95 : decode cX10_mark_ 95 = .ok (.if_icmp .ge 43, 3) := by decide +kernel
theorem dX10_mark__98 : decode cX10_mark_ 98 = .ok (.aload_n 0, 1) := by decide +kernel
theorem dX10_mark__99 : decode cX10_mark_ 99 = .ok (.getfield 89, 3) := by decide +kernel
theorem dX10_mark__102 : decode cX10_mark_ 102 = .ok (.bipush 12, 2) := by decide +kernel
theorem dX10_mark__104 : decode cX10_mark_ 104 = .ok (.iload_n 1, 1) := by decide +kernel
theorem dX10_mark__105 : decode cX10_mark_ 105 = .ok (.imul, 1) := by decide +kernel
theorem dX10_mark__106 : decode cX10_mark_ 106 = .ok (.iconst 4, 1) := by decide +kernel
theorem dX10_mark__107 : decode cX10_mark_ 107 = .ok (.iload 9, 2) := by decide +kernel
theorem dX10_mark__109 : decode cX10_mark_ 109 = .ok (.imul, 1) := by decide +kernel
theorem dX10_mark__110 : decode cX10_mark_ 110 = .ok (.iadd, 1) := by decide +kernel
theorem dX10_mark__111 : decode cX10_mark_ 111 = .ok (.iload 7, 2) := by decide +kernel
theorem dX10_mark__113 : decode cX10_mark_ 113 = .ok (.iadd, 1) := by decide +kernel
theorem dX10_mark__114 : decode cX10_mark_ 114 = .ok (.iaload, 1) := by decide +kernel
theorem dX10_mark__115 : decode cX10_mark_ 115 = .ok (.istore 10, 2) := by decide +kernel
theorem dX10_mark__117 : decode cX10_mark_ 117 = .ok (.iload 10, 2) := by decide +kernel
theorem dX10_mark__119 : decode cX10_mark_ 119 = .ok (.iconst (-1), 1) := by decide +kernel
theorem dX10_mark__120 : decode cX10_mark_ 120 = .ok (.if_icmp .ne 5, 3) := by decide +kernel
theorem dX10_mark__123 : decode cX10_mark_ 123 = .ok (.iconst 1, 1) := by decide +kernel
theorem dX10_mark__124 : decode cX10_mark_ 124 = .ok (.ireturn, 1) := by decide +kernel
theorem dX10_mark__125 : decode cX10_mark_ 125 = .ok (.iload 8, 2) := by decide +kernel
theorem dX10_mark__127 : decode cX10_mark_ 127 = .ok (.iload 10, 2) := by decide +kernel
theorem dX10_mark__129 : decode cX10_mark_ 129 = .ok (.iadd, 1) := by decide +kernel
theorem dX10_mark__130 : decode cX10_mark_ 130 = .ok (.istore 8, 2) := by decide +kernel
theorem dX10_mark__132 : decode cX10_mark_ 132 = .ok (.iinc 9 1, 3) := by decide +kernel
theorem dX10_mark__135 : decode cX10_mark_ 135 = .ok (.goto (-43), 3) := by decide +kernel
theorem dX10_mark__138 : decode cX10_mark_ 138 = .ok (.iload 5, 2) := by decide +kernel
theorem dX10_mark__140 : decode cX10_mark_ 140 = .ok (.iload 8, 2) := by decide +kernel
theorem dX10_mark__142 : decode cX10_mark_ 142 = .ok (.iadd, 1) := by decide +kernel
theorem dX10_mark__143 : decode cX10_mark_ 143 = .ok (.istore 5, 2) := by decide +kernel
theorem dX10_mark__145 : decode cX10_mark_ 145 = .ok (.iload 8, 2) := by decide +kernel
theorem dX10_mark__147 : decode cX10_mark_ 147 = .ok (.bipush 15, 2) := by decide +kernel
theorem dX10_mark__149 : decode cX10_mark_ 149 = .ok (.if_icmp .ge 13, 3) := by decide +kernel
theorem dX10_mark__152 : decode cX10_mark_ 152 = .ok (.iload 6, 2) := by decide +kernel
theorem dX10_mark__154 : decode cX10_mark_ 154 = .ok (.iconst (-1), 1) := by decide +kernel
theorem dX10_mark__155 : decode cX10_mark_ 155 = .ok (.if_icmp .ne 7, 3) := by decide +kernel
theorem dX10_mark__158 : decode cX10_mark_ 158 = .ok (.iload 7, 2) := by decide +kernel
theorem dX10_mark__160 : decode cX10_mark_ 160 = .ok (.istore 6, 2) := by decide +kernel
theorem dX10_mark__162 : decode cX10_mark_ 162 = .ok (.iinc 7 1, 3) := by decide +kernel
theorem dX10_mark__165 : decode cX10_mark_ 165 = .ok (.goto (-85), 3) := by decide +kernel
theorem dX10_mark__168 : decode cX10_mark_ 168 = .ok (.aload_n 0, 1) := by decide +kernel
theorem dX10_mark__169 : decode cX10_mark_ 169 = .ok (.getfield 77, 3) := by decide +kernel
theorem dX10_mark__172 : decode cX10_mark_ 172 = .ok (.iload_n 1, 1) := by decide +kernel
theorem dX10_mark__173 : decode cX10_mark_ 173 = .ok (.aload_n 0, 1) := by decide +kernel
theorem dX10_mark__174 : decode cX10_mark_ 174 = .ok (.getfield 134, 3) := by decide +kernel
theorem dX10_mark__177 : decode cX10_mark_ 177 = .ok (.iastore, 1) := by decide +kernel
theorem dX10_mark__178 : decode cX10_mark_ 178 = .ok (.aload_n 0, 1) := by decide +kernel
theorem dX10_mark__179 : decode cX10_mark_ 179 = .ok (.getfield 80, 3) := by decide +kernel
theorem dX10_mark__182 : decode cX10_mark_ 182 = .ok (.iload_n 1, 1) := by decide +kernel
theorem dX10_mark__183 : decode cX10_mark_ 183 = .ok (.iload 5, 2) := by decide +kernel
theorem dX10_mark__185 : decode cX10_mark_ 185 = .ok (.bipush 12, 2) := by decide +kernel
theorem dX10_mark__187 : decode cX10_mark_ 187 = .ok (.idiv, 1) := by decide +kernel
theorem dX10_mark__188 : decode cX10_mark_ 188 = .ok (.iastore, 1) := by decide +kernel
theorem dX10_mark__189 : decode cX10_mark_ 189 = .ok (.aload_n 0, 1) := by decide +kernel
theorem dX10_mark__190 : decode cX10_mark_ 190 = .ok (.getfield 83, 3) := by decide +kernel
theorem dX10_mark__193 : decode cX10_mark_ 193 = .ok (.iload_n 1, 1) := by decide +kernel
theorem dX10_mark__194 : decode cX10_mark_ 194 = .ok (.iload 6, 2) := by decide +kernel
theorem dX10_mark__196 : decode cX10_mark_ 196 = .ok (.iastore, 1) := by decide +kernel
theorem dX10_mark__197 : decode cX10_mark_ 197 = .ok (.aload_n 0, 1) := by decide +kernel
theorem dX10_mark__198 : decode cX10_mark_ 198 = .ok (.getfield 74, 3) := by decide +kernel
theorem dX10_mark__201 : decode cX10_mark_ 201 = .ok (.iload_n 1, 1) := by decide +kernel
theorem dX10_mark__202 : decode cX10_mark_ 202 = .ok (.iaload, 1) := by decide +kernel
theorem dX10_mark__203 : decode cX10_mark_ 203 = .ok (.istore 7, 2) := by decide +kernel
theorem dX10_mark__205 : decode cX10_mark_ 205 = .ok (.iload 6, 2) := by decide +kernel
theorem dX10_mark__207 : decode cX10_mark_ 207 = .ok (.iconst (-1), 1) := by decide +kernel
theorem dX10_mark__208 : decode cX10_mark_ 208 = .ok (.if_icmp .ne 32, 3) := by decide +kernel
theorem dX10_mark__211 : decode cX10_mark_ 211 = .ok (.aload_n 0, 1) := by decide +kernel
theorem dX10_mark__212 : decode cX10_mark_ 212 = .ok (.iload 7, 2) := by decide +kernel
theorem dX10_mark__214 : decode cX10_mark_ 214 = .ok (.invokevirtual 128, 3) := by decide +kernel
theorem dX10_mark__217 : decode cX10_mark_ 217 = .ok (.ifCond .eq 23, 3) := by decide +kernel
theorem dX10_mark__220 : decode cX10_mark_ 220 = .ok (.aload_n 0, 1) := by decide +kernel
theorem dX10_mark__221 : decode cX10_mark_ 221 = .ok (.iload 7, 2) := by decide +kernel
theorem dX10_mark__223 : decode cX10_mark_ 223 = .ok (.invokevirtual 131, 3) := by decide +kernel
theorem dX10_mark__226 : decode cX10_mark_ 226 = .ok (.ifCond .ne 14, 3) := by decide +kernel
theorem dX10_mark__229 : decode cX10_mark_ 229 = .ok (.aload_n 0, 1) := by decide +kernel
theorem dX10_mark__230 : decode cX10_mark_ 230 = .ok (.getfield 16, 3) := by decide +kernel
theorem dX10_mark__233 : decode cX10_mark_ 233 = .ok (.iload 7, 2) := by decide +kernel
theorem dX10_mark__235 : decode cX10_mark_ 235 = .ok (.aload_n 0, 1) := by decide +kernel
theorem dX10_mark__236 : decode cX10_mark_ 236 = .ok (.getfield 134, 3) := by decide +kernel
theorem dX10_mark__239 : decode cX10_mark_ 239 = .ok (.iastore, 1) := by decide +kernel
theorem dX10_mark__240 : decode cX10_mark_ 240 = .ok (.iconst 1, 1) := by decide +kernel
theorem dX10_mark__241 : decode cX10_mark_ 241 = .ok (.ireturn, 1) := by decide +kernel
theorem dX10_told_0 : decode cX10_told 0 = .ok (.aload_n 0, 1) := by decide +kernel
theorem dX10_told_1 : decode cX10_told 1 = .ok (.iconst 0, 1) := by decide +kernel
theorem dX10_told_2 : decode cX10_told 2 = .ok (.putfield 117, 3) := by decide +kernel
theorem dX10_told_5 : decode cX10_told 5 = .ok (.aload_n 0, 1) := by decide +kernel
theorem dX10_told_6 : decode cX10_told 6 = .ok (.iload_n 1, 1) := by decide +kernel
theorem dX10_told_7 : decode cX10_told 7 = .ok (.invokevirtual 233, 3) := by decide +kernel
theorem dX10_told_10 : decode cX10_told 10 = .ok (.ifCond .ne 5, 3) := by decide +kernel
theorem dX10_told_13 : decode cX10_told 13 = .ok (.iconst (-1), 1) := by decide +kernel
theorem dX10_told_14 : decode cX10_told 14 = .ok (.ireturn, 1) := by decide +kernel
theorem dX10_told_15 : decode cX10_told 15 = .ok (.aload_n 0, 1) := by decide +kernel
theorem dX10_told_16 : decode cX10_told 16 = .ok (.getfield 77, 3) := by decide +kernel
theorem dX10_told_19 : decode cX10_told 19 = .ok (.iload_n 1, 1) := by decide +kernel
theorem dX10_told_20 : decode cX10_told 20 = .ok (.iaload, 1) := by decide +kernel
theorem dX10_told_21 : decode cX10_told 21 = .ok (.iconst (-1), 1) := by decide +kernel
theorem dX10_told_22 : decode cX10_told 22 = .ok (.if_icmp .eq 7, 3) := by decide +kernel
theorem dX10_told_25 : decode cX10_told 25 = .ok (.iconst 1, 1) := by decide +kernel
theorem dX10_told_26 : decode cX10_told 26 = .ok (.goto 4, 3) := by decide +kernel
theorem dX10_told_29 : decode cX10_told 29 = .ok (.iconst 0, 1) := by decide +kernel
theorem dX10_told_30 : decode cX10_told 30 = .ok (.istore_n 3, 1) := by decide +kernel
theorem dX10_told_31 : decode cX10_told 31 = .ok (.iload_n 2, 1) := by decide +kernel
theorem dX10_told_32 : decode cX10_told 32 = .ok (.tableswitch 98 0 5 #[40, 47, 57, 64, 84, 91], 40) := by decide +kernel
theorem dX10_told_72 : decode cX10_told 72 = .ok (.aload_n 0, 1) := by decide +kernel
theorem dX10_told_73 : decode cX10_told 73 = .ok (.getfield 74, 3) := by decide +kernel
theorem dX10_told_76 : decode cX10_told 76 = .ok (.iload_n 1, 1) := by decide +kernel
theorem dX10_told_77 : decode cX10_told 77 = .ok (.iaload, 1) := by decide +kernel
theorem dX10_told_78 : decode cX10_told 78 = .ok (.ireturn, 1) := by decide +kernel
theorem dX10_told_79 : decode cX10_told 79 = .ok (.iload_n 3, 1) := by decide +kernel
theorem dX10_told_80 : decode cX10_told 80 = .ok (.ifCond .eq 7, 3) := by decide +kernel
theorem dX10_told_83 : decode cX10_told 83 = .ok (.iconst 1, 1) := by decide +kernel
theorem dX10_told_84 : decode cX10_told 84 = .ok (.goto 4, 3) := by decide +kernel
theorem dX10_told_87 : decode cX10_told 87 = .ok (.iconst 0, 1) := by decide +kernel
theorem dX10_told_88 : decode cX10_told 88 = .ok (.ireturn, 1) := by decide +kernel
theorem dX10_told_89 : decode cX10_told 89 = .ok (.aload_n 0, 1) := by decide +kernel
theorem dX10_told_90 : decode cX10_told 90 = .ok (.getfield 80, 3) := by decide +kernel
theorem dX10_told_93 : decode cX10_told 93 = .ok (.iload_n 1, 1) := by decide +kernel
theorem dX10_told_94 : decode cX10_told 94 = .ok (.iaload, 1) := by decide +kernel
theorem dX10_told_95 : decode cX10_told 95 = .ok (.ireturn, 1) := by decide +kernel
theorem dX10_told_96 : decode cX10_told 96 = .ok (.iload_n 3, 1) := by decide +kernel
theorem dX10_told_97 : decode cX10_told 97 = .ok (.ifCond .eq 17, 3) := by decide +kernel
theorem dX10_told_100 : decode cX10_told 100 = .ok (.aload_n 0, 1) := by decide +kernel
theorem dX10_told_101 : decode cX10_told 101 = .ok (.getfield 83, 3) := by decide +kernel
theorem dX10_told_104 : decode cX10_told 104 = .ok (.iload_n 1, 1) := by decide +kernel
theorem dX10_told_105 : decode cX10_told 105 = .ok (.iaload, 1) := by decide +kernel
theorem dX10_told_106 : decode cX10_told 106 = .ok (.iconst (-1), 1) := by decide +kernel
theorem dX10_told_107 : decode cX10_told 107 = .ok (.if_icmp .ne 7, 3) := by decide +kernel
theorem dX10_told_110 : decode cX10_told 110 = .ok (.iconst 1, 1) := by decide +kernel
theorem dX10_told_111 : decode cX10_told 111 = .ok (.goto 4, 3) := by decide +kernel
theorem dX10_told_114 : decode cX10_told 114 = .ok (.iconst 0, 1) := by decide +kernel
theorem dX10_told_115 : decode cX10_told 115 = .ok (.ireturn, 1) := by decide +kernel
theorem dX10_told_116 : decode cX10_told 116 = .ok (.aload_n 0, 1) := by decide +kernel
theorem dX10_told_117 : decode cX10_told 117 = .ok (.getfield 83, 3) := by decide +kernel
theorem dX10_told_120 : decode cX10_told 120 = .ok (.iload_n 1, 1) := by decide +kernel
theorem dX10_told_121 : decode cX10_told 121 = .ok (.iaload, 1) := by decide +kernel
theorem dX10_told_122 : decode cX10_told 122 = .ok (.ireturn, 1) := by decide +kernel
theorem dX10_told_123 : decode cX10_told 123 = .ok (.aload_n 0, 1) := by decide +kernel
theorem dX10_told_124 : decode cX10_told 124 = .ok (.getfield 77, 3) := by decide +kernel
theorem dX10_told_127 : decode cX10_told 127 = .ok (.iload_n 1, 1) := by decide +kernel
theorem dX10_told_128 : decode cX10_told 128 = .ok (.iaload, 1) := by decide +kernel
theorem dX10_told_129 : decode cX10_told 129 = .ok (.ireturn, 1) := by decide +kernel
theorem dX10_told_130 : decode cX10_told 130 = .ok (.iconst (-1), 1) := by decide +kernel
theorem dX10_told_131 : decode cX10_told 131 = .ok (.ireturn, 1) := by decide +kernel
theorem dX10_hire_0 : decode cX10_hire 0 = .ok (.aload_n 0, 1) := by decide +kernel
theorem dX10_hire_1 : decode cX10_hire 1 = .ok (.iconst 0, 1) := by decide +kernel
theorem dX10_hire_2 : decode cX10_hire 2 = .ok (.putfield 117, 3) := by decide +kernel
theorem dX10_hire_5 : decode cX10_hire 5 = .ok (.aload_n 0, 1) := by decide +kernel
theorem dX10_hire_6 : decode cX10_hire 6 = .ok (.iload_n 1, 1) := by decide +kernel
theorem dX10_hire_7 : decode cX10_hire 7 = .ok (.invokevirtual 131, 3) := by decide +kernel
theorem dX10_hire_10 : decode cX10_hire 10 = .ok (.ifCond .eq 26, 3) := by decide +kernel
theorem dX10_hire_13 : decode cX10_hire 13 = .ok (.aload_n 0, 1) := by decide +kernel
theorem dX10_hire_14 : decode cX10_hire 14 = .ok (.iload_n 2, 1) := by decide +kernel
theorem dX10_hire_15 : decode cX10_hire 15 = .ok (.invokevirtual 128, 3) := by decide +kernel
theorem dX10_hire_18 : decode cX10_hire 18 = .ok (.ifCond .eq 18, 3) := by decide +kernel
theorem dX10_hire_21 : decode cX10_hire 21 = .ok (.iload_n 1, 1) := by decide +kernel
theorem dX10_hire_22 : decode cX10_hire 22 = .ok (.iload_n 2, 1) := by decide +kernel
theorem dX10_hire_23 : decode cX10_hire 23 = .ok (.if_icmp .eq 13, 3) := by decide +kernel
theorem dX10_hire_26 : decode cX10_hire 26 = .ok (.aload_n 0, 1) := by decide +kernel
theorem dX10_hire_27 : decode cX10_hire 27 = .ok (.getfield 22, 3) := by decide +kernel
theorem dX10_hire_30 : decode cX10_hire 30 = .ok (.iload_n 2, 1) := by decide +kernel
theorem dX10_hire_31 : decode cX10_hire 31 = .ok (.iaload, 1) := by decide +kernel
theorem dX10_hire_32 : decode cX10_hire 32 = .ok (.iload_n 1, 1) := by decide +kernel
theorem dX10_hire_33 : decode cX10_hire 33 = .ok (.if_icmp .ne 5, 3) := by decide +kernel
theorem dX10_hire_36 : decode cX10_hire 36 = .ok (.iconst 0, 1) := by decide +kernel
theorem dX10_hire_37 : decode cX10_hire 37 = .ok (.ireturn, 1) := by decide +kernel
theorem dX10_hire_38 : decode cX10_hire 38 = .ok (.aload_n 0, 1) := by decide +kernel
theorem dX10_hire_39 : decode cX10_hire 39 = .ok (.getfield 22, 3) := by decide +kernel
theorem dX10_hire_42 : decode cX10_hire 42 = .ok (.iload_n 2, 1) := by decide +kernel
theorem dX10_hire_43 : decode cX10_hire 43 = .ok (.iload_n 1, 1) := by decide +kernel
theorem dX10_hire_44 : decode cX10_hire 44 = .ok (.iastore, 1) := by decide +kernel
theorem dX10_hire_45 : decode cX10_hire 45 = .ok (.iconst 1, 1) := by decide +kernel
theorem dX10_hire_46 : decode cX10_hire 46 = .ok (.ireturn, 1) := by decide +kernel
theorem dX10_leave_0 : decode cX10_leave 0 = .ok (.aload_n 0, 1) := by decide +kernel
theorem dX10_leave_1 : decode cX10_leave 1 = .ok (.iconst 0, 1) := by decide +kernel
theorem dX10_leave_2 : decode cX10_leave 2 = .ok (.putfield 117, 3) := by decide +kernel
theorem dX10_leave_5 : decode cX10_leave 5 = .ok (.aload_n 0, 1) := by decide +kernel
theorem dX10_leave_6 : decode cX10_leave 6 = .ok (.iload_n 1, 1) := by decide +kernel
theorem dX10_leave_7 : decode cX10_leave 7 = .ok (.invokevirtual 124, 3) := by decide +kernel
theorem dX10_leave_10 : decode cX10_leave 10 = .ok (.ifCond .eq 13, 3) := by decide +kernel
theorem dX10_leave_13 : decode cX10_leave 13 = .ok (.aload_n 0, 1) := by decide +kernel
theorem dX10_leave_14 : decode cX10_leave 14 = .ok (.getfield 22, 3) := by decide +kernel
theorem dX10_leave_17 : decode cX10_leave 17 = .ok (.iload_n 1, 1) := by decide +kernel
theorem dX10_leave_18 : decode cX10_leave 18 = .ok (.iaload, 1) := by decide +kernel
theorem dX10_leave_19 : decode cX10_leave 19 = .ok (.iconst (-1), 1) := by decide +kernel
theorem dX10_leave_20 : decode cX10_leave 20 = .ok (.if_icmp .ne 5, 3) := by decide +kernel
theorem dX10_leave_23 : decode cX10_leave 23 = .ok (.iconst 0, 1) := by decide +kernel
theorem dX10_leave_24 : decode cX10_leave 24 = .ok (.ireturn, 1) := by decide +kernel
theorem dX10_leave_25 : decode cX10_leave 25 = .ok (.aload_n 0, 1) := by decide +kernel
theorem dX10_leave_26 : decode cX10_leave 26 = .ok (.getfield 22, 3) := by decide +kernel
theorem dX10_leave_29 : decode cX10_leave 29 = .ok (.iload_n 1, 1) := by decide +kernel
theorem dX10_leave_30 : decode cX10_leave 30 = .ok (.iconst (-1), 1) := by decide +kernel
theorem dX10_leave_31 : decode cX10_leave 31 = .ok (.iastore, 1) := by decide +kernel
theorem dX10_leave_32 : decode cX10_leave 32 = .ok (.iconst 1, 1) := by decide +kernel
theorem dX10_leave_33 : decode cX10_leave 33 = .ok (.ireturn, 1) := by decide +kernel
theorem dX10_number_0 : decode cX10_number 0 = .ok (.aload_n 0, 1) := by decide +kernel
theorem dX10_number_1 : decode cX10_number 1 = .ok (.iconst 0, 1) := by decide +kernel
theorem dX10_number_2 : decode cX10_number 2 = .ok (.putfield 117, 3) := by decide +kernel
theorem dX10_number_5 : decode cX10_number 5 = .ok (.aload_n 0, 1) := by decide +kernel
theorem dX10_number_6 : decode cX10_number 6 = .ok (.getfield 236, 3) := by decide +kernel
theorem dX10_number_9 : decode cX10_number 9 = .ok (.bipush 30, 2) := by decide +kernel
theorem dX10_number_11 : decode cX10_number 11 = .ok (.if_icmp .eq 24, 3) := by decide +kernel
theorem dX10_number_14 : decode cX10_number 14 = .ok (.iload_n 1, 1) := by decide +kernel
theorem dX10_number_15 : decode cX10_number 15 = .ok (.iconst 0, 1) := by decide +kernel
theorem dX10_number_16 : decode cX10_number 16 = .ok (.bipush 30, 2) := by decide +kernel
theorem dX10_number_18 : decode cX10_number 18 = .ok (.invokestatic 137, 3) := by decide +kernel
theorem dX10_number_21 : decode cX10_number 21 = .ok (.ifCond .eq 14, 3) := by decide +kernel
theorem dX10_number_24 : decode cX10_number 24 = .ok (.iload_n 2, 1) := by decide +kernel
theorem dX10_number_25 : decode cX10_number 25 = .ok (.iconst 0, 1) := by decide +kernel
theorem dX10_number_26 : decode cX10_number 26 = .ok (.sipush 20000, 3) := by decide +kernel
theorem dX10_number_29 : decode cX10_number 29 = .ok (.invokestatic 137, 3) := by decide +kernel
theorem dX10_number_32 : decode cX10_number 32 = .ok (.ifCond .ne 5, 3) := by decide +kernel
theorem dX10_number_35 : decode cX10_number 35 = .ok (.iconst 0, 1) := by decide +kernel
theorem dX10_number_36 : decode cX10_number 36 = .ok (.ireturn, 1) := by decide +kernel
theorem dX10_number_37 : decode cX10_number 37 = .ok (.aload_n 0, 1) := by decide +kernel
theorem dX10_number_38 : decode cX10_number 38 = .ok (.getfield 92, 3) := by decide +kernel
theorem dX10_number_41 : decode cX10_number 41 = .ok (.aload_n 0, 1) := by decide +kernel
theorem dX10_number_42 : decode cX10_number 42 = .ok (.getfield 236, 3) := by decide +kernel
theorem dX10_number_45 : decode cX10_number 45 = .ok (.iload_n 1, 1) := by decide +kernel
theorem dX10_number_46 : decode cX10_number 46 = .ok (.iastore, 1) := by decide +kernel
theorem dX10_number_47 : decode cX10_number 47 = .ok (.aload_n 0, 1) := by decide +kernel
theorem dX10_number_48 : decode cX10_number 48 = .ok (.getfield 95, 3) := by decide +kernel
theorem dX10_number_51 : decode cX10_number 51 = .ok (.aload_n 0, 1) := by decide +kernel
theorem dX10_number_52 : decode cX10_number 52 = .ok (.getfield 236, 3) := by decide +kernel
theorem dX10_number_55 : decode cX10_number 55 = .ok (.iload_n 2, 1) := by decide +kernel
theorem dX10_number_56 : decode cX10_number 56 = .ok (.iastore, 1) := by decide +kernel
theorem dX10_number_57 : decode cX10_number 57 = .ok (.aload_n 0, 1) := by decide +kernel
theorem dX10_number_58 : decode cX10_number 58 = .ok (.getfield 98, 3) := by decide +kernel
theorem dX10_number_61 : decode cX10_number 61 = .ok (.aload_n 0, 1) := by decide +kernel
theorem dX10_number_62 : decode cX10_number 62 = .ok (.getfield 236, 3) := by decide +kernel
theorem dX10_number_65 : decode cX10_number 65 = .ok (.aload_n 0, 1) := by decide +kernel
theorem dX10_number_66 : decode cX10_number 66 = .ok (.getfield 134, 3) := by decide +kernel
theorem dX10_number_69 : decode cX10_number 69 = .ok (.iastore, 1) := by decide +kernel
theorem dX10_number_70 : decode cX10_number 70 = .ok (.aload_n 0, 1) := by decide +kernel
theorem dX10_number_71 : decode cX10_number 71 = .ok (.dup, 1) := by decide +kernel
theorem dX10_number_72 : decode cX10_number 72 = .ok (.getfield 236, 3) := by decide +kernel
theorem dX10_number_75 : decode cX10_number 75 = .ok (.iconst 1, 1) := by decide +kernel
theorem dX10_number_76 : decode cX10_number 76 = .ok (.iadd, 1) := by decide +kernel
theorem dX10_number_77 : decode cX10_number 77 = .ok (.putfield 236, 3) := by decide +kernel
theorem dX10_number_80 : decode cX10_number 80 = .ok (.iconst 1, 1) := by decide +kernel
theorem dX10_number_81 : decode cX10_number 81 = .ok (.ireturn, 1) := by decide +kernel
theorem dX10_handsOf_0 : decode cX10_handsOf 0 = .ok (.iconst 0, 1) := by decide +kernel
theorem dX10_handsOf_1 : decode cX10_handsOf 1 = .ok (.istore_n 2, 1) := by decide +kernel
theorem dX10_handsOf_2 : decode cX10_handsOf 2 = .ok (.iconst 0, 1) := by decide +kernel
theorem dX10_handsOf_3 : decode cX10_handsOf 3 = .ok (.istore_n 3, 1) := by decide +kernel
theorem dX10_handsOf_4 : decode cX10_handsOf 4 = .ok (.iload_n 3, 1) := by decide +kernel
theorem dX10_handsOf_5 : decode cX10_handsOf 5 = .ok (.aload_n 0, 1) := by decide +kernel
theorem dX10_handsOf_6 : decode cX10_handsOf 6 = .ok (.getfield 121, 3) := by decide +kernel
theorem dX10_handsOf_9 : decode cX10_handsOf 9 = .ok (.if_icmp .ge 27, 3) := by decide +kernel
theorem dX10_handsOf_12 : decode cX10_handsOf 12 = .ok (.iload_n 2, 1) := by decide +kernel
theorem dX10_handsOf_13 : decode cX10_handsOf 13 = .ok (.aload_n 0, 1) := by decide +kernel
theorem dX10_handsOf_14 : decode cX10_handsOf 14 = .ok (.getfield 22, 3) := by decide +kernel
theorem dX10_handsOf_17 : decode cX10_handsOf 17 = .ok (.iload_n 3, 1) := by decide +kernel
theorem dX10_handsOf_18 : decode cX10_handsOf 18 = .ok (.iaload, 1) := by decide +kernel
theorem dX10_handsOf_19 : decode cX10_handsOf 19 = .ok (.iload_n 1, 1) := by decide +kernel
theorem dX10_handsOf_20 : decode cX10_handsOf 20 = .ok (.if_icmp .ne 7, 3) := by decide +kernel
theorem dX10_handsOf_23 : decode cX10_handsOf 23 = .ok (.iconst 1, 1) := by decide +kernel
theorem dX10_handsOf_24 : decode cX10_handsOf 24 = .ok (.goto 4, 3) := by decide +kernel
theorem dX10_handsOf_27 : decode cX10_handsOf 27 = .ok (.iconst 0, 1) := by decide +kernel
theorem dX10_handsOf_28 : decode cX10_handsOf 28 = .ok (.iadd, 1) := by decide +kernel
theorem dX10_handsOf_29 : decode cX10_handsOf 29 = .ok (.istore_n 2, 1) := by decide +kernel
theorem dX10_handsOf_30 : decode cX10_handsOf 30 = .ok (.iinc 3 1, 3) := by decide +kernel
theorem dX10_handsOf_33 : decode cX10_handsOf 33 = .ok (.goto (-29), 3) := by decide +kernel
theorem dX10_handsOf_36 : decode cX10_handsOf 36 = .ok (.iload_n 2, 1) := by decide +kernel
theorem dX10_handsOf_37 : decode cX10_handsOf 37 = .ok (.ireturn, 1) := by decide +kernel
theorem dX10_hands_0 : decode cX10_hands 0 = .ok (.aload_n 0, 1) := by decide +kernel
theorem dX10_hands_1 : decode cX10_hands 1 = .ok (.iconst 0, 1) := by decide +kernel
theorem dX10_hands_2 : decode cX10_hands 2 = .ok (.putfield 117, 3) := by decide +kernel
theorem dX10_hands_5 : decode cX10_hands 5 = .ok (.aload_n 0, 1) := by decide +kernel
theorem dX10_hands_6 : decode cX10_hands 6 = .ok (.iload_n 1, 1) := by decide +kernel
theorem dX10_hands_7 : decode cX10_hands 7 = .ok (.invokevirtual 131, 3) := by decide +kernel
theorem dX10_hands_10 : decode cX10_hands 10 = .ok (.ifCond .eq 11, 3) := by decide +kernel
theorem dX10_hands_13 : decode cX10_hands 13 = .ok (.aload_n 0, 1) := by decide +kernel
theorem dX10_hands_14 : decode cX10_hands 14 = .ok (.iload_n 1, 1) := by decide +kernel
theorem dX10_hands_15 : decode cX10_hands 15 = .ok (.invokevirtual 239, 3) := by decide +kernel
theorem dX10_hands_18 : decode cX10_hands 18 = .ok (.goto 4, 3) := by decide +kernel
theorem dX10_hands_21 : decode cX10_hands 21 = .ok (.iconst (-1), 1) := by decide +kernel
theorem dX10_hands_22 : decode cX10_hands 22 = .ok (.ireturn, 1) := by decide +kernel
theorem dX10_lawful_0 : decode cX10_lawful 0 = .ok (.aload_n 0, 1) := by decide +kernel
theorem dX10_lawful_1 : decode cX10_lawful 1 = .ok (.iconst 0, 1) := by decide +kernel
theorem dX10_lawful_2 : decode cX10_lawful 2 = .ok (.putfield 117, 3) := by decide +kernel
theorem dX10_lawful_5 : decode cX10_lawful 5 = .ok (.aload_n 0, 1) := by decide +kernel
theorem dX10_lawful_6 : decode cX10_lawful 6 = .ok (.iload_n 1, 1) := by decide +kernel
theorem dX10_lawful_7 : decode cX10_lawful 7 = .ok (.invokevirtual 131, 3) := by decide +kernel
theorem dX10_lawful_10 : decode cX10_lawful 10 = .ok (.ifCond .ne 5, 3) := by decide +kernel
theorem dX10_lawful_13 : decode cX10_lawful 13 = .ok (.iconst (-1), 1) := by decide +kernel
theorem dX10_lawful_14 : decode cX10_lawful 14 = .ok (.ireturn, 1) := by decide +kernel
theorem dX10_lawful_15 : decode cX10_lawful 15 = .ok (.iconst 3, 1) := by decide +kernel
theorem dX10_lawful_16 : decode cX10_lawful 16 = .ok (.istore_n 2, 1) := by decide +kernel
theorem dX10_lawful_17 : decode cX10_lawful 17 = .ok (.iconst (-1), 1) := by decide +kernel
theorem dX10_lawful_18 : decode cX10_lawful 18 = .ok (.istore_n 3, 1) := by decide +kernel
theorem dX10_lawful_19 : decode cX10_lawful 19 = .ok (.iconst 0, 1) := by decide +kernel
theorem dX10_lawful_20 : decode cX10_lawful 20 = .ok (.istore 4, 2) := by decide +kernel
theorem dX10_lawful_22 : decode cX10_lawful 22 = .ok (.iload 4, 2) := by decide +kernel
theorem dX10_lawful_24 : decode cX10_lawful 24 = .ok (.aload_n 0, 1) := by decide +kernel
theorem dX10_lawful_25 : decode cX10_lawful 25 = .ok (.getfield 236, 3) := by decide +kernel
theorem dX10_lawful_28 : decode cX10_lawful 28 = .ok (.if_icmp .ge 53, 3) := by decide +kernel
theorem dX10_lawful_31 : decode cX10_lawful 31 = .ok (.aload_n 0, 1) := by decide +kernel
theorem dX10_lawful_32 : decode cX10_lawful 32 = .ok (.getfield 95, 3) := by decide +kernel
theorem dX10_lawful_35 : decode cX10_lawful 35 = .ok (.iload 4, 2) := by decide +kernel
theorem dX10_lawful_37 : decode cX10_lawful 37 = .ok (.iaload, 1) := by decide +kernel
theorem dX10_lawful_38 : decode cX10_lawful 38 = .ok (.aload_n 0, 1) := by decide +kernel
theorem dX10_lawful_39 : decode cX10_lawful 39 = .ok (.getfield 134, 3) := by decide +kernel
theorem dX10_lawful_42 : decode cX10_lawful 42 = .ok (.if_icmp .gt 33, 3) := by decide +kernel
theorem dX10_lawful_45 : decode cX10_lawful 45 = .ok (.aload_n 0, 1) := by decide +kernel
theorem dX10_lawful_46 : decode cX10_lawful 46 = .ok (.getfield 95, 3) := by decide +kernel
theorem dX10_lawful_49 : decode cX10_lawful 49 = .ok (.iload 4, 2) := by decide +kernel
theorem dX10_lawful_51 : decode cX10_lawful 51 = .ok (.iaload, 1) := by decide +kernel
theorem dX10_lawful_52 : decode cX10_lawful 52 = .ok (.iload_n 3, 1) := by decide +kernel
theorem dX10_lawful_53 : decode cX10_lawful 53 = .ok (.if_icmp .ge 6, 3) := by decide +kernel
theorem dX10_lawful_56 : decode cX10_lawful 56 = .ok (.goto 19, 3) := by decide +kernel
theorem dX10_lawful_59 : decode cX10_lawful 59 = .ok (.aload_n 0, 1) := by decide +kernel
theorem dX10_lawful_60 : decode cX10_lawful 60 = .ok (.getfield 95, 3) := by decide +kernel
theorem dX10_lawful_63 : decode cX10_lawful 63 = .ok (.iload 4, 2) := by decide +kernel
theorem dX10_lawful_65 : decode cX10_lawful 65 = .ok (.iaload, 1) := by decide +kernel
theorem dX10_lawful_66 : decode cX10_lawful 66 = .ok (.istore_n 3, 1) := by decide +kernel
theorem dX10_lawful_67 : decode cX10_lawful 67 = .ok (.aload_n 0, 1) := by decide +kernel
theorem dX10_lawful_68 : decode cX10_lawful 68 = .ok (.getfield 92, 3) := by decide +kernel
theorem dX10_lawful_71 : decode cX10_lawful 71 = .ok (.iload 4, 2) := by decide +kernel
theorem dX10_lawful_73 : decode cX10_lawful 73 = .ok (.iaload, 1) := by decide +kernel
theorem dX10_lawful_74 : decode cX10_lawful 74 = .ok (.istore_n 2, 1) := by decide +kernel
theorem dX10_lawful_75 : decode cX10_lawful 75 = .ok (.iinc 4 1, 3) := by decide +kernel
theorem dX10_lawful_78 : decode cX10_lawful 78 = .ok (.goto (-56), 3) := by decide +kernel
theorem dX10_lawful_81 : decode cX10_lawful 81 = .ok (.aload_n 0, 1) := by decide +kernel
theorem dX10_lawful_82 : decode cX10_lawful 82 = .ok (.iload_n 1, 1) := by decide +kernel
theorem dX10_lawful_83 : decode cX10_lawful 83 = .ok (.invokevirtual 239, 3) := by decide +kernel
theorem dX10_lawful_86 : decode cX10_lawful 86 = .ok (.iload_n 2, 1) := by decide +kernel
theorem dX10_lawful_87 : decode cX10_lawful 87 = .ok (.if_icmp .le 26, 3) := by decide +kernel
theorem dX10_lawful_90 : decode cX10_lawful 90 = .ok (.aload_n 0, 1) := by decide +kernel
theorem dX10_lawful_91 : decode cX10_lawful 91 = .ok (.getfield 25, 3) := by decide +kernel
theorem dX10_lawful_94 : decode cX10_lawful 94 = .ok (.iload_n 1, 1) := by decide +kernel
theorem dX10_lawful_95 : decode cX10_lawful 95 = .ok (.iaload, 1) := by decide +kernel
theorem dX10_lawful_96 : decode cX10_lawful 96 = .ok (.iconst (-1), 1) := by decide +kernel
theorem dX10_lawful_97 : decode cX10_lawful 97 = .ok (.if_icmp .eq 20, 3) := by decide +kernel
theorem dX10_lawful_100 : decode cX10_lawful 100 = .ok (.aload_n 0, 1) := by decide +kernel
theorem dX10_lawful_101 : decode cX10_lawful 101 = .ok (.getfield 134, 3) := by decide +kernel
theorem dX10_lawful_104 : decode cX10_lawful 104 = .ok (.aload_n 0, 1) := by decide +kernel
theorem dX10_lawful_105 : decode cX10_lawful 105 = .ok (.getfield 25, 3) := by decide +kernel
theorem dX10_lawful_108 : decode cX10_lawful 108 = .ok (.iload_n 1, 1) := by decide +kernel
theorem dX10_lawful_109 : decode cX10_lawful 109 = .ok (.iaload, 1) := by decide +kernel
theorem dX10_lawful_110 : decode cX10_lawful 110 = .ok (.if_icmp .gt 7, 3) := by decide +kernel
theorem dX10_lawful_113 : decode cX10_lawful 113 = .ok (.iconst 1, 1) := by decide +kernel
theorem dX10_lawful_114 : decode cX10_lawful 114 = .ok (.goto 4, 3) := by decide +kernel
theorem dX10_lawful_117 : decode cX10_lawful 117 = .ok (.iconst 0, 1) := by decide +kernel
theorem dX10_lawful_118 : decode cX10_lawful 118 = .ok (.ireturn, 1) := by decide +kernel
theorem dX10_look__0 : decode cX10_look_ 0 = .ok (.aload_n 0, 1) := by decide +kernel
theorem dX10_look__1 : decode cX10_look_ 1 = .ok (.iload_n 1, 1) := by decide +kernel
theorem dX10_look__2 : decode cX10_look_ 2 = .ok (.ifCond .lt 20, 3) := by decide +kernel
theorem dX10_look__5 : decode cX10_look_ 5 = .ok (.iload_n 1, 1) := by decide +kernel
theorem dX10_look__6 : decode cX10_look_ 6 = .ok (.aload_n 0, 1) := by decide +kernel
theorem dX10_look__7 : decode cX10_look_ 7 = .ok (.getfield 148, 3) := by decide +kernel
theorem dX10_look__10 : decode cX10_look_ 10 = .ok (.if_icmp .ge 12, 3) := by decide +kernel
theorem dX10_look__13 : decode cX10_look_ 13 = .ok (.iload_n 2, 1) := by decide +kernel
theorem dX10_look__14 : decode cX10_look_ 14 = .ok (.iconst 0, 1) := by decide +kernel
theorem dX10_look__15 : decode cX10_look_ 15 = .ok (.iconst 5, 1) := by decide +kernel
theorem dX10_look__16 : decode cX10_look_ 16 = .ok (.invokestatic 137, 3) := by decide +kernel
theorem dX10_look__19 : decode cX10_look_ 19 = .ok (.ifCond .ne 7, 3) := by decide +kernel
theorem dX10_look__22 : decode cX10_look_ 22 = .ok (.iconst 1, 1) := by decide +kernel
theorem dX10_look__23 : decode cX10_look_ 23 = .ok (.goto 4, 3) := by decide +kernel
theorem dX10_look__26 : decode cX10_look_ 26 = .ok (.iconst 0, 1) := by decide +kernel
theorem dX10_look__27 : decode cX10_look_ 27 = .ok (.putfield 117, 3) := by decide +kernel
theorem dX10_look__30 : decode cX10_look_ 30 = .ok (.aload_n 0, 1) := by decide +kernel
theorem dX10_look__31 : decode cX10_look_ 31 = .ok (.getfield 117, 3) := by decide +kernel
theorem dX10_look__34 : decode cX10_look_ 34 = .ok (.ifCond .le 5, 3) := by decide +kernel
theorem dX10_look__37 : decode cX10_look_ 37 = .ok (.iconst 0, 1) := by decide +kernel
theorem dX10_look__38 : decode cX10_look_ 38 = .ok (.ireturn, 1) := by decide +kernel
theorem dX10_look__39 : decode cX10_look_ 39 = .ok (.iload_n 2, 1) := by decide +kernel
theorem dX10_look__40 : decode cX10_look_ 40 = .ok (.tableswitch 71 0 4 #[36, 43, 50, 57, 64], 36) := by decide +kernel
theorem dX10_look__76 : decode cX10_look_ 76 = .ok (.aload_n 0, 1) := by decide +kernel
theorem dX10_look__77 : decode cX10_look_ 77 = .ok (.getfield 28, 3) := by decide +kernel
theorem dX10_look__80 : decode cX10_look_ 80 = .ok (.iload_n 1, 1) := by decide +kernel
theorem dX10_look__81 : decode cX10_look_ 81 = .ok (.iaload, 1) := by decide +kernel
theorem dX10_look__82 : decode cX10_look_ 82 = .ok (.ireturn, 1) := by decide +kernel
theorem dX10_look__83 : decode cX10_look_ 83 = .ok (.aload_n 0, 1) := by decide +kernel
theorem dX10_look__84 : decode cX10_look_ 84 = .ok (.getfield 31, 3) := by decide +kernel
theorem dX10_look__87 : decode cX10_look_ 87 = .ok (.iload_n 1, 1) := by decide +kernel
theorem dX10_look__88 : decode cX10_look_ 88 = .ok (.iaload, 1) := by decide +kernel
theorem dX10_look__89 : decode cX10_look_ 89 = .ok (.ireturn, 1) := by decide +kernel
theorem dX10_look__90 : decode cX10_look_ 90 = .ok (.aload_n 0, 1) := by decide +kernel
theorem dX10_look__91 : decode cX10_look_ 91 = .ok (.getfield 34, 3) := by decide +kernel
theorem dX10_look__94 : decode cX10_look_ 94 = .ok (.iload_n 1, 1) := by decide +kernel
theorem dX10_look__95 : decode cX10_look_ 95 = .ok (.iaload, 1) := by decide +kernel
theorem dX10_look__96 : decode cX10_look_ 96 = .ok (.ireturn, 1) := by decide +kernel
theorem dX10_look__97 : decode cX10_look_ 97 = .ok (.aload_n 0, 1) := by decide +kernel
theorem dX10_look__98 : decode cX10_look_ 98 = .ok (.getfield 37, 3) := by decide +kernel
theorem dX10_look__101 : decode cX10_look_ 101 = .ok (.iload_n 1, 1) := by decide +kernel
theorem dX10_look__102 : decode cX10_look_ 102 = .ok (.iaload, 1) := by decide +kernel
theorem dX10_look__103 : decode cX10_look_ 103 = .ok (.ireturn, 1) := by decide +kernel
theorem dX10_look__104 : decode cX10_look_ 104 = .ok (.aload_n 0, 1) := by decide +kernel
theorem dX10_look__105 : decode cX10_look_ 105 = .ok (.getfield 40, 3) := by decide +kernel
theorem dX10_look__108 : decode cX10_look_ 108 = .ok (.iload_n 1, 1) := by decide +kernel
theorem dX10_look__109 : decode cX10_look_ 109 = .ok (.iaload, 1) := by decide +kernel
theorem dX10_look__110 : decode cX10_look_ 110 = .ok (.ireturn, 1) := by decide +kernel
theorem dX10_look__111 : decode cX10_look_ 111 = .ok (.aload_n 0, 1) := by decide +kernel
theorem dX10_look__112 : decode cX10_look_ 112 = .ok (.getfield 43, 3) := by decide +kernel
theorem dX10_look__115 : decode cX10_look_ 115 = .ok (.iload_n 1, 1) := by decide +kernel
theorem dX10_look__116 : decode cX10_look_ 116 = .ok (.iaload, 1) := by decide +kernel
theorem dX10_look__117 : decode cX10_look_ 117 = .ok (.ireturn, 1) := by decide +kernel
theorem dX10_count_0 : decode cX10_count 0 = .ok (.aload_n 0, 1) := by decide +kernel
theorem dX10_count_1 : decode cX10_count 1 = .ok (.iconst 0, 1) := by decide +kernel
theorem dX10_count_2 : decode cX10_count 2 = .ok (.putfield 117, 3) := by decide +kernel
theorem dX10_count_5 : decode cX10_count 5 = .ok (.iconst 0, 1) := by decide +kernel
theorem dX10_count_6 : decode cX10_count 6 = .ok (.istore_n 2, 1) := by decide +kernel
theorem dX10_count_7 : decode cX10_count 7 = .ok (.iload_n 1, 1) := by decide +kernel
theorem dX10_count_8 : decode cX10_count 8 = .ok (.tableswitch 148 0 7 #[48, 53, 58, 92, 97, 102, 107, 112], 48) := by decide +kernel
theorem dX10_count_56 : decode cX10_count 56 = .ok (.aload_n 0, 1) := by decide +kernel
theorem dX10_count_57 : decode cX10_count 57 = .ok (.getfield 134, 3) := by decide +kernel
theorem dX10_count_60 : decode cX10_count 60 = .ok (.ireturn, 1) := by decide +kernel
theorem dX10_count_61 : decode cX10_count 61 = .ok (.aload_n 0, 1) := by decide +kernel
theorem dX10_count_62 : decode cX10_count 62 = .ok (.getfield 121, 3) := by decide +kernel
theorem dX10_count_65 : decode cX10_count 65 = .ok (.ireturn, 1) := by decide +kernel
theorem dX10_count_66 : decode cX10_count 66 = .ok (.iconst 0, 1) := by decide +kernel
theorem dX10_count_67 : decode cX10_count 67 = .ok (.istore_n 3, 1) := by decide +kernel
theorem dX10_count_68 : decode cX10_count 68 = .ok (.iload_n 3, 1) := by decide +kernel
theorem dX10_count_69 : decode cX10_count 69 = .ok (.aload_n 0, 1) := by decide +kernel
theorem dX10_count_70 : decode cX10_count 70 = .ok (.getfield 121, 3) := by decide +kernel
theorem dX10_count_73 : decode cX10_count 73 = .ok (.if_icmp .ge 25, 3) := by decide +kernel
theorem dX10_count_76 : decode cX10_count 76 = .ok (.iload_n 2, 1) := by decide +kernel
theorem dX10_count_77 : decode cX10_count 77 = .ok (.aload_n 0, 1) := by decide +kernel
theorem dX10_count_78 : decode cX10_count 78 = .ok (.iload_n 3, 1) := by decide +kernel
theorem dX10_count_79 : decode cX10_count 79 = .ok (.invokevirtual 131, 3) := by decide +kernel
theorem dX10_count_82 : decode cX10_count 82 = .ok (.ifCond .eq 7, 3) := by decide +kernel
theorem dX10_count_85 : decode cX10_count 85 = .ok (.iconst 1, 1) := by decide +kernel
theorem dX10_count_86 : decode cX10_count 86 = .ok (.goto 4, 3) := by decide +kernel
theorem dX10_count_89 : decode cX10_count 89 = .ok (.iconst 0, 1) := by decide +kernel
theorem dX10_count_90 : decode cX10_count 90 = .ok (.iadd, 1) := by decide +kernel
theorem dX10_count_91 : decode cX10_count 91 = .ok (.istore_n 2, 1) := by decide +kernel
theorem dX10_count_92 : decode cX10_count 92 = .ok (.iinc 3 1, 3) := by decide +kernel
theorem dX10_count_95 : decode cX10_count 95 = .ok (.goto (-27), 3) := by decide +kernel
theorem dX10_count_98 : decode cX10_count 98 = .ok (.iload_n 2, 1) := by decide +kernel
theorem dX10_count_99 : decode cX10_count 99 = .ok (.ireturn, 1) := by decide +kernel
theorem dX10_count_100 : decode cX10_count 100 = .ok (.aload_n 0, 1) := by decide +kernel
theorem dX10_count_101 : decode cX10_count 101 = .ok (.getfield 148, 3) := by decide +kernel
theorem dX10_count_104 : decode cX10_count 104 = .ok (.ireturn, 1) := by decide +kernel
theorem dX10_count_105 : decode cX10_count 105 = .ok (.aload_n 0, 1) := by decide +kernel
theorem dX10_count_106 : decode cX10_count 106 = .ok (.getfield 212, 3) := by decide +kernel
theorem dX10_count_109 : decode cX10_count 109 = .ok (.ireturn, 1) := by decide +kernel
theorem dX10_count_110 : decode cX10_count 110 = .ok (.aload_n 0, 1) := by decide +kernel
theorem dX10_count_111 : decode cX10_count 111 = .ok (.getfield 161, 3) := by decide +kernel
theorem dX10_count_114 : decode cX10_count 114 = .ok (.ireturn, 1) := by decide +kernel
theorem dX10_count_115 : decode cX10_count 115 = .ok (.aload_n 0, 1) := by decide +kernel
theorem dX10_count_116 : decode cX10_count 116 = .ok (.getfield 205, 3) := by decide +kernel
theorem dX10_count_119 : decode cX10_count 119 = .ok (.ireturn, 1) := by decide +kernel
theorem dX10_count_120 : decode cX10_count 120 = .ok (.iconst 0, 1) := by decide +kernel
theorem dX10_count_121 : decode cX10_count 121 = .ok (.istore_n 3, 1) := by decide +kernel
theorem dX10_count_122 : decode cX10_count 122 = .ok (.iload_n 3, 1) := by decide +kernel
theorem dX10_count_123 : decode cX10_count 123 = .ok (.aload_n 0, 1) := by decide +kernel
theorem dX10_count_124 : decode cX10_count 124 = .ok (.getfield 121, 3) := by decide +kernel
theorem dX10_count_127 : decode cX10_count 127 = .ok (.if_icmp .ge 27, 3) := by decide +kernel
theorem dX10_count_130 : decode cX10_count 130 = .ok (.iload_n 2, 1) := by decide +kernel
theorem dX10_count_131 : decode cX10_count 131 = .ok (.aload_n 0, 1) := by decide +kernel
theorem dX10_count_132 : decode cX10_count 132 = .ok (.getfield 22, 3) := by decide +kernel
theorem dX10_count_135 : decode cX10_count 135 = .ok (.iload_n 3, 1) := by decide +kernel
theorem dX10_count_136 : decode cX10_count 136 = .ok (.iaload, 1) := by decide +kernel
theorem dX10_count_137 : decode cX10_count 137 = .ok (.iconst (-1), 1) := by decide +kernel
theorem dX10_count_138 : decode cX10_count 138 = .ok (.if_icmp .eq 7, 3) := by decide +kernel
theorem dX10_count_141 : decode cX10_count 141 = .ok (.iconst 1, 1) := by decide +kernel
theorem dX10_count_142 : decode cX10_count 142 = .ok (.goto 4, 3) := by decide +kernel
theorem dX10_count_145 : decode cX10_count 145 = .ok (.iconst 0, 1) := by decide +kernel
theorem dX10_count_146 : decode cX10_count 146 = .ok (.iadd, 1) := by decide +kernel
theorem dX10_count_147 : decode cX10_count 147 = .ok (.istore_n 2, 1) := by decide +kernel
theorem dX10_count_148 : decode cX10_count 148 = .ok (.iinc 3 1, 3) := by decide +kernel
theorem dX10_count_151 : decode cX10_count 151 = .ok (.goto (-29), 3) := by decide +kernel
theorem dX10_count_154 : decode cX10_count 154 = .ok (.iload_n 2, 1) := by decide +kernel
theorem dX10_count_155 : decode cX10_count 155 = .ok (.ireturn, 1) := by decide +kernel
theorem dX10_count_156 : decode cX10_count 156 = .ok (.iconst (-1), 1) := by decide +kernel
theorem dX10_count_157 : decode cX10_count 157 = .ok (.ireturn, 1) := by decide +kernel
theorem dJ9_min_7cf53_0 : decode cJ9_min_7cf53 0 = .ok (.iload_n 0, 1) := by decide +kernel
theorem dJ9_min_7cf53_1 : decode cJ9_min_7cf53 1 = .ok (.iload_n 1, 1) := by decide +kernel
theorem dJ9_min_7cf53_2 : decode cJ9_min_7cf53 2 = .ok (.if_icmp .gt 7, 3) := by decide +kernel
theorem dJ9_min_7cf53_5 : decode cJ9_min_7cf53 5 = .ok (.iload_n 0, 1) := by decide +kernel
theorem dJ9_min_7cf53_6 : decode cJ9_min_7cf53 6 = .ok (.goto 4, 3) := by decide +kernel
theorem dJ9_min_7cf53_9 : decode cJ9_min_7cf53 9 = .ok (.iload_n 1, 1) := by decide +kernel
theorem dJ9_min_7cf53_10 : decode cJ9_min_7cf53 10 = .ok (.ireturn, 1) := by decide +kernel
theorem dL_look_0 : decode cL_look 0 = .ok (.aload_n 3, 1) := by decide +kernel
theorem dL_look_1 : decode cL_look 1 = .ok (.iconst 0, 1) := by decide +kernel
theorem dL_look_2 : decode cL_look 2 = .ok (.aload_n 0, 1) := by decide +kernel
theorem dL_look_3 : decode cL_look 3 = .ok (.iload_n 1, 1) := by decide +kernel
theorem dL_look_4 : decode cL_look 4 = .ok (.iload_n 2, 1) := by decide +kernel
theorem dL_look_5 : decode cL_look 5 = .ok (.invokevirtual 7, 3) := by decide +kernel
theorem dL_look_8 : decode cL_look 8 = .ok (.i2l, 1) := by decide +kernel
theorem dL_look_9 : decode cL_look 9 = .ok (.lastore, 1) := by decide +kernel
theorem dL_look_10 : decode cL_look 10 = .ok (.goto 7, 3) := by decide +kernel
theorem dL_look_13 : decode cL_look 13 = .ok (.astore 4, 2) := by decide +kernel
theorem dL_look_15 : decode cL_look 15 = .ok (.iconst 1, 1) := by decide +kernel
theorem dL_look_16 : decode cL_look 16 = .ok (.ireturn, 1) := by decide +kernel
theorem dL_look_17 : decode cL_look 17 = .ok (.iconst 0, 1) := by decide +kernel
theorem dL_look_18 : decode cL_look 18 = .ok (.ireturn, 1) := by decide +kernel
theorem dL_law_0 : decode cL_law 0 = .ok (.new 8, 3) := by decide +kernel
theorem dL_law_3 : decode cL_law 3 = .ok (.dup, 1) := by decide +kernel
theorem dL_law_4 : decode cL_law 4 = .ok (.invokespecial 15, 3) := by decide +kernel
theorem dL_law_7 : decode cL_law 7 = .ok (.astore_n 1, 1) := by decide +kernel
theorem dL_law_8 : decode cL_law 8 = .ok (.new 16, 3) := by decide +kernel
theorem dL_law_11 : decode cL_law 11 = .ok (.dup, 1) := by decide +kernel
theorem dL_law_12 : decode cL_law 12 = .ok (.invokespecial 18, 3) := by decide +kernel
theorem dL_law_15 : decode cL_law 15 = .ok (.astore_n 2, 1) := by decide +kernel
theorem dL_law_16 : decode cL_law 16 = .ok (.iconst 1, 1) := by decide +kernel
theorem dL_law_17 : decode cL_law 17 = .ok (.newarray .long, 2) := by decide +kernel
theorem dL_law_19 : decode cL_law 19 = .ok (.astore_n 3, 1) := by decide +kernel
theorem dL_law_20 : decode cL_law 20 = .ok (.iconst 0, 1) := by decide +kernel
theorem dL_law_21 : decode cL_law 21 = .ok (.istore 4, 2) := by decide +kernel
theorem dL_law_23 : decode cL_law 23 = .ok (.iload 4, 2) := by decide +kernel
theorem dL_law_25 : decode cL_law 25 = .ok (.aload_n 0, 1) := by decide +kernel
theorem dL_law_26 : decode cL_law 26 = .ok (.arraylength, 1) := by decide +kernel
theorem dL_law_27 : decode cL_law 27 = .ok (.iconst 5, 1) := by decide +kernel
theorem dL_law_28 : decode cL_law 28 = .ok (.isub, 1) := by decide +kernel
theorem dL_law_29 : decode cL_law 29 = .ok (.if_icmp .gt 1110, 3) := by decide +kernel
theorem dL_law_32 : decode cL_law 32 = .ok (.aload_n 0, 1) := by decide +kernel
theorem dL_law_33 : decode cL_law 33 = .ok (.iload 4, 2) := by decide +kernel
theorem dL_law_35 : decode cL_law 35 = .ok (.iaload, 1) := by decide +kernel
theorem dL_law_36 : decode cL_law 36 = .ok (.bipush 31, 2) := by decide +kernel
theorem dL_law_38 : decode cL_law 38 = .ok (.iand, 1) := by decide +kernel
theorem dL_law_39 : decode cL_law 39 = .ok (.tableswitch 1094 0 25 #[117, 154, 179, 216, 241, 302, 327, 376, 401, 426, 439, 464, 501, 562, 611, 680, 717, 778, 815, 852, 877, 914, 939, 964, 1001, 1069], 117) := by decide +kernel
theorem dL_law_156 : decode cL_law 156 = .ok (.aload_n 1, 1) := by decide +kernel
theorem dL_law_157 : decode cL_law 157 = .ok (.aload_n 0, 1) := by decide +kernel
theorem dL_law_158 : decode cL_law 158 = .ok (.iload 4, 2) := by decide +kernel
theorem dL_law_160 : decode cL_law 160 = .ok (.iconst 1, 1) := by decide +kernel
theorem dL_law_161 : decode cL_law 161 = .ok (.iadd, 1) := by decide +kernel
theorem dL_law_162 : decode cL_law 162 = .ok (.iaload, 1) := by decide +kernel
theorem dL_law_163 : decode cL_law 163 = .ok (.aload_n 0, 1) := by decide +kernel
theorem dL_law_164 : decode cL_law 164 = .ok (.iload 4, 2) := by decide +kernel
theorem dL_law_166 : decode cL_law 166 = .ok (.iconst 2, 1) := by decide +kernel
theorem dL_law_167 : decode cL_law 167 = .ok (.iadd, 1) := by decide +kernel
theorem dL_law_168 : decode cL_law 168 = .ok (.iaload, 1) := by decide +kernel
theorem dL_law_169 : decode cL_law 169 = .ok (.invokevirtual 19, 3) := by decide +kernel
theorem dL_law_172 : decode cL_law 172 = .ok (.aload_n 2, 1) := by decide +kernel
theorem dL_law_173 : decode cL_law 173 = .ok (.aload_n 0, 1) := by decide +kernel
theorem dL_law_174 : decode cL_law 174 = .ok (.iload 4, 2) := by decide +kernel
theorem dL_law_176 : decode cL_law 176 = .ok (.iconst 1, 1) := by decide +kernel
theorem dL_law_177 : decode cL_law 177 = .ok (.iadd, 1) := by decide +kernel
theorem dL_law_178 : decode cL_law 178 = .ok (.iaload, 1) := by decide +kernel
theorem dL_law_179 : decode cL_law 179 = .ok (.aload_n 0, 1) := by decide +kernel
theorem dL_law_180 : decode cL_law 180 = .ok (.iload 4, 2) := by decide +kernel
theorem dL_law_182 : decode cL_law 182 = .ok (.iconst 2, 1) := by decide +kernel
theorem dL_law_183 : decode cL_law 183 = .ok (.iadd, 1) := by decide +kernel
theorem dL_law_184 : decode cL_law 184 = .ok (.iaload, 1) := by decide +kernel
theorem dL_law_185 : decode cL_law 185 = .ok (.invokevirtual 22, 3) := by decide +kernel
theorem dL_law_188 : decode cL_law 188 = .ok (.if_icmp .eq 945, 3) := by decide +kernel
theorem dL_law_191 : decode cL_law 191 = .ok (.iconst 0, 1) := by decide +kernel
theorem dL_law_192 : decode cL_law 192 = .ok (.ireturn, 1) := by decide +kernel
theorem dL_law_193 : decode cL_law 193 = .ok (.aload_n 1, 1) := by decide +kernel
theorem dL_law_194 : decode cL_law 194 = .ok (.aload_n 0, 1) := by decide +kernel
theorem dL_law_195 : decode cL_law 195 = .ok (.iload 4, 2) := by decide +kernel
end
section
theorem dL_law_197 : decode cL_law 197 = .ok (.iconst 1, 1) := by decide +kernel
theorem dL_law_198 : decode cL_law 198 = .ok (.iadd, 1) := by decide +kernel
theorem dL_law_199 : decode cL_law 199 = .ok (.iaload, 1) := by decide +kernel
theorem dL_law_200 : decode cL_law 200 = .ok (.invokevirtual 23, 3) := by decide +kernel
theorem dL_law_203 : decode cL_law 203 = .ok (.aload_n 2, 1) := by decide +kernel
theorem dL_law_204 : decode cL_law 204 = .ok (.aload_n 0, 1) := by decide +kernel
theorem dL_law_205 : decode cL_law 205 = .ok (.iload 4, 2) := by decide +kernel
theorem dL_law_207 : decode cL_law 207 = .ok (.iconst 1, 1) := by decide +kernel
theorem dL_law_208 : decode cL_law 208 = .ok (.iadd, 1) := by decide +kernel
theorem dL_law_209 : decode cL_law 209 = .ok (.iaload, 1) := by decide +kernel
theorem dL_law_210 : decode cL_law 210 = .ok (.invokevirtual 27, 3) := by decide +kernel
theorem dL_law_213 : decode cL_law 213 = .ok (.if_icmp .eq 920, 3) := by decide +kernel
theorem dL_law_216 : decode cL_law 216 = .ok (.iconst 0, 1) := by decide +kernel
theorem dL_law_217 : decode cL_law 217 = .ok (.ireturn, 1) := by decide +kernel
theorem dL_law_218 : decode cL_law 218 = .ok (.aload_n 1, 1) := by decide +kernel
theorem dL_law_219 : decode cL_law 219 = .ok (.aload_n 0, 1) := by decide +kernel
theorem dL_law_220 : decode cL_law 220 = .ok (.iload 4, 2) := by decide +kernel
theorem dL_law_222 : decode cL_law 222 = .ok (.iconst 1, 1) := by decide +kernel
theorem dL_law_223 : decode cL_law 223 = .ok (.iadd, 1) := by decide +kernel
theorem dL_law_224 : decode cL_law 224 = .ok (.iaload, 1) := by decide +kernel
theorem dL_law_225 : decode cL_law 225 = .ok (.aload_n 0, 1) := by decide +kernel
theorem dL_law_226 : decode cL_law 226 = .ok (.iload 4, 2) := by decide +kernel
theorem dL_law_228 : decode cL_law 228 = .ok (.iconst 2, 1) := by decide +kernel
theorem dL_law_229 : decode cL_law 229 = .ok (.iadd, 1) := by decide +kernel
theorem dL_law_230 : decode cL_law 230 = .ok (.iaload, 1) := by decide +kernel
theorem dL_law_231 : decode cL_law 231 = .ok (.invokevirtual 28, 3) := by decide +kernel
theorem dL_law_234 : decode cL_law 234 = .ok (.aload_n 2, 1) := by decide +kernel
theorem dL_law_235 : decode cL_law 235 = .ok (.aload_n 0, 1) := by decide +kernel
theorem dL_law_236 : decode cL_law 236 = .ok (.iload 4, 2) := by decide +kernel
theorem dL_law_238 : decode cL_law 238 = .ok (.iconst 1, 1) := by decide +kernel
theorem dL_law_239 : decode cL_law 239 = .ok (.iadd, 1) := by decide +kernel
theorem dL_law_240 : decode cL_law 240 = .ok (.iaload, 1) := by decide +kernel
theorem dL_law_241 : decode cL_law 241 = .ok (.aload_n 0, 1) := by decide +kernel
theorem dL_law_242 : decode cL_law 242 = .ok (.iload 4, 2) := by decide +kernel
theorem dL_law_244 : decode cL_law 244 = .ok (.iconst 2, 1) := by decide +kernel
theorem dL_law_245 : decode cL_law 245 = .ok (.iadd, 1) := by decide +kernel
theorem dL_law_246 : decode cL_law 246 = .ok (.iaload, 1) := by decide +kernel
theorem dL_law_247 : decode cL_law 247 = .ok (.invokevirtual 32, 3) := by decide +kernel
theorem dL_law_250 : decode cL_law 250 = .ok (.if_icmp .eq 883, 3) := by decide +kernel
theorem dL_law_253 : decode cL_law 253 = .ok (.iconst 0, 1) := by decide +kernel
theorem dL_law_254 : decode cL_law 254 = .ok (.ireturn, 1) := by decide +kernel
theorem dL_law_255 : decode cL_law 255 = .ok (.aload_n 1, 1) := by decide +kernel
theorem dL_law_256 : decode cL_law 256 = .ok (.aload_n 0, 1) := by decide +kernel
theorem dL_law_257 : decode cL_law 257 = .ok (.iload 4, 2) := by decide +kernel
theorem dL_law_259 : decode cL_law 259 = .ok (.iconst 1, 1) := by decide +kernel
theorem dL_law_260 : decode cL_law 260 = .ok (.iadd, 1) := by decide +kernel
theorem dL_law_261 : decode cL_law 261 = .ok (.iaload, 1) := by decide +kernel
theorem dL_law_262 : decode cL_law 262 = .ok (.invokevirtual 33, 3) := by decide +kernel
theorem dL_law_265 : decode cL_law 265 = .ok (.aload_n 2, 1) := by decide +kernel
theorem dL_law_266 : decode cL_law 266 = .ok (.aload_n 0, 1) := by decide +kernel
theorem dL_law_267 : decode cL_law 267 = .ok (.iload 4, 2) := by decide +kernel
theorem dL_law_269 : decode cL_law 269 = .ok (.iconst 1, 1) := by decide +kernel
theorem dL_law_270 : decode cL_law 270 = .ok (.iadd, 1) := by decide +kernel
theorem dL_law_271 : decode cL_law 271 = .ok (.iaload, 1) := by decide +kernel
theorem dL_law_272 : decode cL_law 272 = .ok (.invokevirtual 37, 3) := by decide +kernel
theorem dL_law_275 : decode cL_law 275 = .ok (.if_icmp .eq 858, 3) := by decide +kernel
theorem dL_law_278 : decode cL_law 278 = .ok (.iconst 0, 1) := by decide +kernel
theorem dL_law_279 : decode cL_law 279 = .ok (.ireturn, 1) := by decide +kernel
theorem dL_law_280 : decode cL_law 280 = .ok (.aload_n 1, 1) := by decide +kernel
theorem dL_law_281 : decode cL_law 281 = .ok (.aload_n 0, 1) := by decide +kernel
theorem dL_law_282 : decode cL_law 282 = .ok (.iload 4, 2) := by decide +kernel
theorem dL_law_284 : decode cL_law 284 = .ok (.iconst 1, 1) := by decide +kernel
theorem dL_law_285 : decode cL_law 285 = .ok (.iadd, 1) := by decide +kernel
theorem dL_law_286 : decode cL_law 286 = .ok (.iaload, 1) := by decide +kernel
theorem dL_law_287 : decode cL_law 287 = .ok (.aload_n 0, 1) := by decide +kernel
theorem dL_law_288 : decode cL_law 288 = .ok (.iload 4, 2) := by decide +kernel
theorem dL_law_290 : decode cL_law 290 = .ok (.iconst 2, 1) := by decide +kernel
theorem dL_law_291 : decode cL_law 291 = .ok (.iadd, 1) := by decide +kernel
theorem dL_law_292 : decode cL_law 292 = .ok (.iaload, 1) := by decide +kernel
theorem dL_law_293 : decode cL_law 293 = .ok (.aload_n 0, 1) := by decide +kernel
theorem dL_law_294 : decode cL_law 294 = .ok (.iload 4, 2) := by decide +kernel
theorem dL_law_296 : decode cL_law 296 = .ok (.iconst 3, 1) := by decide +kernel
theorem dL_law_297 : decode cL_law 297 = .ok (.iadd, 1) := by decide +kernel
theorem dL_law_298 : decode cL_law 298 = .ok (.iaload, 1) := by decide +kernel
theorem dL_law_299 : decode cL_law 299 = .ok (.aload_n 0, 1) := by decide +kernel
theorem dL_law_300 : decode cL_law 300 = .ok (.iload 4, 2) := by decide +kernel
theorem dL_law_302 : decode cL_law 302 = .ok (.iconst 4, 1) := by decide +kernel
theorem dL_law_303 : decode cL_law 303 = .ok (.iadd, 1) := by decide +kernel
theorem dL_law_304 : decode cL_law 304 = .ok (.iaload, 1) := by decide +kernel
theorem dL_law_305 : decode cL_law 305 = .ok (.invokevirtual 38, 3) := by decide +kernel
theorem dL_law_308 : decode cL_law 308 = .ok (.aload_n 2, 1) := by decide +kernel
theorem dL_law_309 : decode cL_law 309 = .ok (.aload_n 0, 1) := by decide +kernel
theorem dL_law_310 : decode cL_law 310 = .ok (.iload 4, 2) := by decide +kernel
theorem dL_law_312 : decode cL_law 312 = .ok (.iconst 1, 1) := by decide +kernel
theorem dL_law_313 : decode cL_law 313 = .ok (.iadd, 1) := by decide +kernel
theorem dL_law_314 : decode cL_law 314 = .ok (.iaload, 1) := by decide +kernel
theorem dL_law_315 : decode cL_law 315 = .ok (.aload_n 0, 1) := by decide +kernel
theorem dL_law_316 : decode cL_law 316 = .ok (.iload 4, 2) := by decide +kernel
theorem dL_law_318 : decode cL_law 318 = .ok (.iconst 2, 1) := by decide +kernel
theorem dL_law_319 : decode cL_law 319 = .ok (.iadd, 1) := by decide +kernel
theorem dL_law_320 : decode cL_law 320 = .ok (.iaload, 1) := by decide +kernel
theorem dL_law_321 : decode cL_law 321 = .ok (.aload_n 0, 1) := by decide +kernel
theorem dL_law_322 : decode cL_law 322 = .ok (.iload 4, 2) := by decide +kernel
theorem dL_law_324 : decode cL_law 324 = .ok (.iconst 3, 1) := by decide +kernel
theorem dL_law_325 : decode cL_law 325 = .ok (.iadd, 1) := by decide +kernel
theorem dL_law_326 : decode cL_law 326 = .ok (.iaload, 1) := by decide +kernel
theorem dL_law_327 : decode cL_law 327 = .ok (.aload_n 0, 1) := by decide +kernel
theorem dL_law_328 : decode cL_law 328 = .ok (.iload 4, 2) := by decide +kernel
theorem dL_law_330 : decode cL_law 330 = .ok (.iconst 4, 1) := by decide +kernel
theorem dL_law_331 : decode cL_law 331 = .ok (.iadd, 1) := by decide +kernel
theorem dL_law_332 : decode cL_law 332 = .ok (.iaload, 1) := by decide +kernel
theorem dL_law_333 : decode cL_law 333 = .ok (.invokevirtual 42, 3) := by decide +kernel
theorem dL_law_336 : decode cL_law 336 = .ok (.if_icmp .eq 797, 3) := by decide +kernel
theorem dL_law_339 : decode cL_law 339 = .ok (.iconst 0, 1) := by decide +kernel
theorem dL_law_340 : decode cL_law 340 = .ok (.ireturn, 1) := by decide +kernel
theorem dL_law_341 : decode cL_law 341 = .ok (.aload_n 1, 1) := by decide +kernel
theorem dL_law_342 : decode cL_law 342 = .ok (.aload_n 0, 1) := by decide +kernel
theorem dL_law_343 : decode cL_law 343 = .ok (.iload 4, 2) := by decide +kernel
theorem dL_law_345 : decode cL_law 345 = .ok (.iconst 1, 1) := by decide +kernel
theorem dL_law_346 : decode cL_law 346 = .ok (.iadd, 1) := by decide +kernel
theorem dL_law_347 : decode cL_law 347 = .ok (.iaload, 1) := by decide +kernel
theorem dL_law_348 : decode cL_law 348 = .ok (.invokevirtual 43, 3) := by decide +kernel
theorem dL_law_351 : decode cL_law 351 = .ok (.aload_n 2, 1) := by decide +kernel
theorem dL_law_352 : decode cL_law 352 = .ok (.aload_n 0, 1) := by decide +kernel
theorem dL_law_353 : decode cL_law 353 = .ok (.iload 4, 2) := by decide +kernel
theorem dL_law_355 : decode cL_law 355 = .ok (.iconst 1, 1) := by decide +kernel
theorem dL_law_356 : decode cL_law 356 = .ok (.iadd, 1) := by decide +kernel
theorem dL_law_357 : decode cL_law 357 = .ok (.iaload, 1) := by decide +kernel
theorem dL_law_358 : decode cL_law 358 = .ok (.invokevirtual 46, 3) := by decide +kernel
theorem dL_law_361 : decode cL_law 361 = .ok (.if_icmp .eq 772, 3) := by decide +kernel
theorem dL_law_364 : decode cL_law 364 = .ok (.iconst 0, 1) := by decide +kernel
theorem dL_law_365 : decode cL_law 365 = .ok (.ireturn, 1) := by decide +kernel
theorem dL_law_366 : decode cL_law 366 = .ok (.aload_n 1, 1) := by decide +kernel
theorem dL_law_367 : decode cL_law 367 = .ok (.aload_n 0, 1) := by decide +kernel
theorem dL_law_368 : decode cL_law 368 = .ok (.iload 4, 2) := by decide +kernel
theorem dL_law_370 : decode cL_law 370 = .ok (.iconst 1, 1) := by decide +kernel
theorem dL_law_371 : decode cL_law 371 = .ok (.iadd, 1) := by decide +kernel
theorem dL_law_372 : decode cL_law 372 = .ok (.iaload, 1) := by decide +kernel
theorem dL_law_373 : decode cL_law 373 = .ok (.aload_n 0, 1) := by decide +kernel
theorem dL_law_374 : decode cL_law 374 = .ok (.iload 4, 2) := by decide +kernel
theorem dL_law_376 : decode cL_law 376 = .ok (.iconst 2, 1) := by decide +kernel
theorem dL_law_377 : decode cL_law 377 = .ok (.iadd, 1) := by decide +kernel
theorem dL_law_378 : decode cL_law 378 = .ok (.iaload, 1) := by decide +kernel
theorem dL_law_379 : decode cL_law 379 = .ok (.aload_n 0, 1) := by decide +kernel
theorem dL_law_380 : decode cL_law 380 = .ok (.iload 4, 2) := by decide +kernel
theorem dL_law_382 : decode cL_law 382 = .ok (.iconst 3, 1) := by decide +kernel
theorem dL_law_383 : decode cL_law 383 = .ok (.iadd, 1) := by decide +kernel
theorem dL_law_384 : decode cL_law 384 = .ok (.iaload, 1) := by decide +kernel
theorem dL_law_385 : decode cL_law 385 = .ok (.invokevirtual 47, 3) := by decide +kernel
theorem dL_law_388 : decode cL_law 388 = .ok (.aload_n 2, 1) := by decide +kernel
theorem dL_law_389 : decode cL_law 389 = .ok (.aload_n 0, 1) := by decide +kernel
theorem dL_law_390 : decode cL_law 390 = .ok (.iload 4, 2) := by decide +kernel
theorem dL_law_392 : decode cL_law 392 = .ok (.iconst 1, 1) := by decide +kernel
theorem dL_law_393 : decode cL_law 393 = .ok (.iadd, 1) := by decide +kernel
theorem dL_law_394 : decode cL_law 394 = .ok (.iaload, 1) := by decide +kernel
theorem dL_law_395 : decode cL_law 395 = .ok (.aload_n 0, 1) := by decide +kernel
theorem dL_law_396 : decode cL_law 396 = .ok (.iload 4, 2) := by decide +kernel
theorem dL_law_398 : decode cL_law 398 = .ok (.iconst 2, 1) := by decide +kernel
theorem dL_law_399 : decode cL_law 399 = .ok (.iadd, 1) := by decide +kernel
theorem dL_law_400 : decode cL_law 400 = .ok (.iaload, 1) := by decide +kernel
theorem dL_law_401 : decode cL_law 401 = .ok (.aload_n 0, 1) := by decide +kernel
theorem dL_law_402 : decode cL_law 402 = .ok (.iload 4, 2) := by decide +kernel
theorem dL_law_404 : decode cL_law 404 = .ok (.iconst 3, 1) := by decide +kernel
theorem dL_law_405 : decode cL_law 405 = .ok (.iadd, 1) := by decide +kernel
theorem dL_law_406 : decode cL_law 406 = .ok (.iaload, 1) := by decide +kernel
theorem dL_law_407 : decode cL_law 407 = .ok (.invokevirtual 51, 3) := by decide +kernel
theorem dL_law_410 : decode cL_law 410 = .ok (.if_icmp .eq 723, 3) := by decide +kernel
theorem dL_law_413 : decode cL_law 413 = .ok (.iconst 0, 1) := by decide +kernel
theorem dL_law_414 : decode cL_law 414 = .ok (.ireturn, 1) := by decide +kernel
theorem dL_law_415 : decode cL_law 415 = .ok (.aload_n 1, 1) := by decide +kernel
theorem dL_law_416 : decode cL_law 416 = .ok (.aload_n 0, 1) := by decide +kernel
theorem dL_law_417 : decode cL_law 417 = .ok (.iload 4, 2) := by decide +kernel
theorem dL_law_419 : decode cL_law 419 = .ok (.iconst 1, 1) := by decide +kernel
theorem dL_law_420 : decode cL_law 420 = .ok (.iadd, 1) := by decide +kernel
theorem dL_law_421 : decode cL_law 421 = .ok (.iaload, 1) := by decide +kernel
theorem dL_law_422 : decode cL_law 422 = .ok (.invokevirtual 52, 3) := by decide +kernel
theorem dL_law_425 : decode cL_law 425 = .ok (.aload_n 2, 1) := by decide +kernel
theorem dL_law_426 : decode cL_law 426 = .ok (.aload_n 0, 1) := by decide +kernel
theorem dL_law_427 : decode cL_law 427 = .ok (.iload 4, 2) := by decide +kernel
theorem dL_law_429 : decode cL_law 429 = .ok (.iconst 1, 1) := by decide +kernel
theorem dL_law_430 : decode cL_law 430 = .ok (.iadd, 1) := by decide +kernel
theorem dL_law_431 : decode cL_law 431 = .ok (.iaload, 1) := by decide +kernel
theorem dL_law_432 : decode cL_law 432 = .ok (.invokevirtual 55, 3) := by decide +kernel
theorem dL_law_435 : decode cL_law 435 = .ok (.if_icmp .eq 698, 3) := by decide +kernel
theorem dL_law_438 : decode cL_law 438 = .ok (.iconst 0, 1) := by decide +kernel
theorem dL_law_439 : decode cL_law 439 = .ok (.ireturn, 1) := by decide +kernel
theorem dL_law_440 : decode cL_law 440 = .ok (.aload_n 1, 1) := by decide +kernel
theorem dL_law_441 : decode cL_law 441 = .ok (.aload_n 0, 1) := by decide +kernel
theorem dL_law_442 : decode cL_law 442 = .ok (.iload 4, 2) := by decide +kernel
theorem dL_law_444 : decode cL_law 444 = .ok (.iconst 1, 1) := by decide +kernel
theorem dL_law_445 : decode cL_law 445 = .ok (.iadd, 1) := by decide +kernel
theorem dL_law_446 : decode cL_law 446 = .ok (.iaload, 1) := by decide +kernel
theorem dL_law_447 : decode cL_law 447 = .ok (.invokevirtual 56, 3) := by decide +kernel
theorem dL_law_450 : decode cL_law 450 = .ok (.aload_n 2, 1) := by decide +kernel
theorem dL_law_451 : decode cL_law 451 = .ok (.aload_n 0, 1) := by decide +kernel
theorem dL_law_452 : decode cL_law 452 = .ok (.iload 4, 2) := by decide +kernel
theorem dL_law_454 : decode cL_law 454 = .ok (.iconst 1, 1) := by decide +kernel
theorem dL_law_455 : decode cL_law 455 = .ok (.iadd, 1) := by decide +kernel
theorem dL_law_456 : decode cL_law 456 = .ok (.iaload, 1) := by decide +kernel
theorem dL_law_457 : decode cL_law 457 = .ok (.invokevirtual 59, 3) := by decide +kernel
theorem dL_law_460 : decode cL_law 460 = .ok (.if_icmp .eq 673, 3) := by decide +kernel
theorem dL_law_463 : decode cL_law 463 = .ok (.iconst 0, 1) := by decide +kernel
theorem dL_law_464 : decode cL_law 464 = .ok (.ireturn, 1) := by decide +kernel
theorem dL_law_465 : decode cL_law 465 = .ok (.aload_n 1, 1) := by decide +kernel
theorem dL_law_466 : decode cL_law 466 = .ok (.invokevirtual 60, 3) := by decide +kernel
theorem dL_law_469 : decode cL_law 469 = .ok (.aload_n 2, 1) := by decide +kernel
theorem dL_law_470 : decode cL_law 470 = .ok (.invokevirtual 64, 3) := by decide +kernel
theorem dL_law_473 : decode cL_law 473 = .ok (.if_icmp .eq 660, 3) := by decide +kernel
theorem dL_law_476 : decode cL_law 476 = .ok (.iconst 0, 1) := by decide +kernel
theorem dL_law_477 : decode cL_law 477 = .ok (.ireturn, 1) := by decide +kernel
theorem dL_law_478 : decode cL_law 478 = .ok (.aload_n 1, 1) := by decide +kernel
theorem dL_law_479 : decode cL_law 479 = .ok (.aload_n 0, 1) := by decide +kernel
theorem dL_law_480 : decode cL_law 480 = .ok (.iload 4, 2) := by decide +kernel
theorem dL_law_482 : decode cL_law 482 = .ok (.iconst 1, 1) := by decide +kernel
theorem dL_law_483 : decode cL_law 483 = .ok (.iadd, 1) := by decide +kernel
theorem dL_law_484 : decode cL_law 484 = .ok (.iaload, 1) := by decide +kernel
theorem dL_law_485 : decode cL_law 485 = .ok (.invokevirtual 65, 3) := by decide +kernel
theorem dL_law_488 : decode cL_law 488 = .ok (.aload_n 2, 1) := by decide +kernel
theorem dL_law_489 : decode cL_law 489 = .ok (.aload_n 0, 1) := by decide +kernel
theorem dL_law_490 : decode cL_law 490 = .ok (.iload 4, 2) := by decide +kernel
theorem dL_law_492 : decode cL_law 492 = .ok (.iconst 1, 1) := by decide +kernel
theorem dL_law_493 : decode cL_law 493 = .ok (.iadd, 1) := by decide +kernel
theorem dL_law_494 : decode cL_law 494 = .ok (.iaload, 1) := by decide +kernel
theorem dL_law_495 : decode cL_law 495 = .ok (.invokevirtual 68, 3) := by decide +kernel
theorem dL_law_498 : decode cL_law 498 = .ok (.if_icmp .eq 635, 3) := by decide +kernel
theorem dL_law_501 : decode cL_law 501 = .ok (.iconst 0, 1) := by decide +kernel
theorem dL_law_502 : decode cL_law 502 = .ok (.ireturn, 1) := by decide +kernel
theorem dL_law_503 : decode cL_law 503 = .ok (.aload_n 1, 1) := by decide +kernel
theorem dL_law_504 : decode cL_law 504 = .ok (.aload_n 0, 1) := by decide +kernel
theorem dL_law_505 : decode cL_law 505 = .ok (.iload 4, 2) := by decide +kernel
theorem dL_law_507 : decode cL_law 507 = .ok (.iconst 1, 1) := by decide +kernel
theorem dL_law_508 : decode cL_law 508 = .ok (.iadd, 1) := by decide +kernel
theorem dL_law_509 : decode cL_law 509 = .ok (.iaload, 1) := by decide +kernel
theorem dL_law_510 : decode cL_law 510 = .ok (.aload_n 0, 1) := by decide +kernel
theorem dL_law_511 : decode cL_law 511 = .ok (.iload 4, 2) := by decide +kernel
theorem dL_law_513 : decode cL_law 513 = .ok (.iconst 2, 1) := by decide +kernel
theorem dL_law_514 : decode cL_law 514 = .ok (.iadd, 1) := by decide +kernel
theorem dL_law_515 : decode cL_law 515 = .ok (.iaload, 1) := by decide +kernel
theorem dL_law_516 : decode cL_law 516 = .ok (.invokevirtual 69, 3) := by decide +kernel
theorem dL_law_519 : decode cL_law 519 = .ok (.aload_n 2, 1) := by decide +kernel
theorem dL_law_520 : decode cL_law 520 = .ok (.aload_n 0, 1) := by decide +kernel
theorem dL_law_521 : decode cL_law 521 = .ok (.iload 4, 2) := by decide +kernel
theorem dL_law_523 : decode cL_law 523 = .ok (.iconst 1, 1) := by decide +kernel
theorem dL_law_524 : decode cL_law 524 = .ok (.iadd, 1) := by decide +kernel
theorem dL_law_525 : decode cL_law 525 = .ok (.iaload, 1) := by decide +kernel
theorem dL_law_526 : decode cL_law 526 = .ok (.aload_n 0, 1) := by decide +kernel
theorem dL_law_527 : decode cL_law 527 = .ok (.iload 4, 2) := by decide +kernel
theorem dL_law_529 : decode cL_law 529 = .ok (.iconst 2, 1) := by decide +kernel
theorem dL_law_530 : decode cL_law 530 = .ok (.iadd, 1) := by decide +kernel
theorem dL_law_531 : decode cL_law 531 = .ok (.iaload, 1) := by decide +kernel
theorem dL_law_532 : decode cL_law 532 = .ok (.invokevirtual 72, 3) := by decide +kernel
theorem dL_law_535 : decode cL_law 535 = .ok (.if_icmp .eq 598, 3) := by decide +kernel
theorem dL_law_538 : decode cL_law 538 = .ok (.iconst 0, 1) := by decide +kernel
theorem dL_law_539 : decode cL_law 539 = .ok (.ireturn, 1) := by decide +kernel
theorem dL_law_540 : decode cL_law 540 = .ok (.aload_n 1, 1) := by decide +kernel
theorem dL_law_541 : decode cL_law 541 = .ok (.aload_n 0, 1) := by decide +kernel
theorem dL_law_542 : decode cL_law 542 = .ok (.iload 4, 2) := by decide +kernel
theorem dL_law_544 : decode cL_law 544 = .ok (.iconst 1, 1) := by decide +kernel
theorem dL_law_545 : decode cL_law 545 = .ok (.iadd, 1) := by decide +kernel
theorem dL_law_546 : decode cL_law 546 = .ok (.iaload, 1) := by decide +kernel
theorem dL_law_547 : decode cL_law 547 = .ok (.aload_n 0, 1) := by decide +kernel
theorem dL_law_548 : decode cL_law 548 = .ok (.iload 4, 2) := by decide +kernel
theorem dL_law_550 : decode cL_law 550 = .ok (.iconst 2, 1) := by decide +kernel
theorem dL_law_551 : decode cL_law 551 = .ok (.iadd, 1) := by decide +kernel
theorem dL_law_552 : decode cL_law 552 = .ok (.iaload, 1) := by decide +kernel
theorem dL_law_553 : decode cL_law 553 = .ok (.aload_n 0, 1) := by decide +kernel
theorem dL_law_554 : decode cL_law 554 = .ok (.iload 4, 2) := by decide +kernel
theorem dL_law_556 : decode cL_law 556 = .ok (.iconst 3, 1) := by decide +kernel
theorem dL_law_557 : decode cL_law 557 = .ok (.iadd, 1) := by decide +kernel
theorem dL_law_558 : decode cL_law 558 = .ok (.iaload, 1) := by decide +kernel
theorem dL_law_559 : decode cL_law 559 = .ok (.aload_n 0, 1) := by decide +kernel
theorem dL_law_560 : decode cL_law 560 = .ok (.iload 4, 2) := by decide +kernel
theorem dL_law_562 : decode cL_law 562 = .ok (.iconst 4, 1) := by decide +kernel
theorem dL_law_563 : decode cL_law 563 = .ok (.iadd, 1) := by decide +kernel
theorem dL_law_564 : decode cL_law 564 = .ok (.iaload, 1) := by decide +kernel
theorem dL_law_565 : decode cL_law 565 = .ok (.invokevirtual 73, 3) := by decide +kernel
theorem dL_law_568 : decode cL_law 568 = .ok (.aload_n 2, 1) := by decide +kernel
theorem dL_law_569 : decode cL_law 569 = .ok (.aload_n 0, 1) := by decide +kernel
theorem dL_law_570 : decode cL_law 570 = .ok (.iload 4, 2) := by decide +kernel
theorem dL_law_572 : decode cL_law 572 = .ok (.iconst 1, 1) := by decide +kernel
theorem dL_law_573 : decode cL_law 573 = .ok (.iadd, 1) := by decide +kernel
theorem dL_law_574 : decode cL_law 574 = .ok (.iaload, 1) := by decide +kernel
theorem dL_law_575 : decode cL_law 575 = .ok (.aload_n 0, 1) := by decide +kernel
theorem dL_law_576 : decode cL_law 576 = .ok (.iload 4, 2) := by decide +kernel
theorem dL_law_578 : decode cL_law 578 = .ok (.iconst 2, 1) := by decide +kernel
theorem dL_law_579 : decode cL_law 579 = .ok (.iadd, 1) := by decide +kernel
theorem dL_law_580 : decode cL_law 580 = .ok (.iaload, 1) := by decide +kernel
theorem dL_law_581 : decode cL_law 581 = .ok (.aload_n 0, 1) := by decide +kernel
theorem dL_law_582 : decode cL_law 582 = .ok (.iload 4, 2) := by decide +kernel
theorem dL_law_584 : decode cL_law 584 = .ok (.iconst 3, 1) := by decide +kernel
theorem dL_law_585 : decode cL_law 585 = .ok (.iadd, 1) := by decide +kernel
theorem dL_law_586 : decode cL_law 586 = .ok (.iaload, 1) := by decide +kernel
theorem dL_law_587 : decode cL_law 587 = .ok (.aload_n 0, 1) := by decide +kernel
theorem dL_law_588 : decode cL_law 588 = .ok (.iload 4, 2) := by decide +kernel
theorem dL_law_590 : decode cL_law 590 = .ok (.iconst 4, 1) := by decide +kernel
theorem dL_law_591 : decode cL_law 591 = .ok (.iadd, 1) := by decide +kernel
theorem dL_law_592 : decode cL_law 592 = .ok (.iaload, 1) := by decide +kernel
theorem dL_law_593 : decode cL_law 593 = .ok (.invokevirtual 76, 3) := by decide +kernel
theorem dL_law_596 : decode cL_law 596 = .ok (.if_icmp .eq 537, 3) := by decide +kernel
theorem dL_law_599 : decode cL_law 599 = .ok (.iconst 0, 1) := by decide +kernel
theorem dL_law_600 : decode cL_law 600 = .ok (.ireturn, 1) := by decide +kernel
theorem dL_law_601 : decode cL_law 601 = .ok (.aload_n 1, 1) := by decide +kernel
theorem dL_law_602 : decode cL_law 602 = .ok (.aload_n 0, 1) := by decide +kernel
theorem dL_law_603 : decode cL_law 603 = .ok (.iload 4, 2) := by decide +kernel
theorem dL_law_605 : decode cL_law 605 = .ok (.iconst 1, 1) := by decide +kernel
theorem dL_law_606 : decode cL_law 606 = .ok (.iadd, 1) := by decide +kernel
theorem dL_law_607 : decode cL_law 607 = .ok (.iaload, 1) := by decide +kernel
theorem dL_law_608 : decode cL_law 608 = .ok (.aload_n 0, 1) := by decide +kernel
theorem dL_law_609 : decode cL_law 609 = .ok (.iload 4, 2) := by decide +kernel
theorem dL_law_611 : decode cL_law 611 = .ok (.iconst 2, 1) := by decide +kernel
theorem dL_law_612 : decode cL_law 612 = .ok (.iadd, 1) := by decide +kernel
theorem dL_law_613 : decode cL_law 613 = .ok (.iaload, 1) := by decide +kernel
theorem dL_law_614 : decode cL_law 614 = .ok (.aload_n 0, 1) := by decide +kernel
theorem dL_law_615 : decode cL_law 615 = .ok (.iload 4, 2) := by decide +kernel
theorem dL_law_617 : decode cL_law 617 = .ok (.iconst 3, 1) := by decide +kernel
theorem dL_law_618 : decode cL_law 618 = .ok (.iadd, 1) := by decide +kernel
theorem dL_law_619 : decode cL_law 619 = .ok (.iaload, 1) := by decide +kernel
theorem dL_law_620 : decode cL_law 620 = .ok (.invokevirtual 77, 3) := by decide +kernel
theorem dL_law_623 : decode cL_law 623 = .ok (.aload_n 2, 1) := by decide +kernel
theorem dL_law_624 : decode cL_law 624 = .ok (.aload_n 0, 1) := by decide +kernel
theorem dL_law_625 : decode cL_law 625 = .ok (.iload 4, 2) := by decide +kernel
theorem dL_law_627 : decode cL_law 627 = .ok (.iconst 1, 1) := by decide +kernel
theorem dL_law_628 : decode cL_law 628 = .ok (.iadd, 1) := by decide +kernel
theorem dL_law_629 : decode cL_law 629 = .ok (.iaload, 1) := by decide +kernel
theorem dL_law_630 : decode cL_law 630 = .ok (.aload_n 0, 1) := by decide +kernel
theorem dL_law_631 : decode cL_law 631 = .ok (.iload 4, 2) := by decide +kernel
theorem dL_law_633 : decode cL_law 633 = .ok (.iconst 2, 1) := by decide +kernel
theorem dL_law_634 : decode cL_law 634 = .ok (.iadd, 1) := by decide +kernel
theorem dL_law_635 : decode cL_law 635 = .ok (.iaload, 1) := by decide +kernel
theorem dL_law_636 : decode cL_law 636 = .ok (.aload_n 0, 1) := by decide +kernel
theorem dL_law_637 : decode cL_law 637 = .ok (.iload 4, 2) := by decide +kernel
theorem dL_law_639 : decode cL_law 639 = .ok (.iconst 3, 1) := by decide +kernel
theorem dL_law_640 : decode cL_law 640 = .ok (.iadd, 1) := by decide +kernel
theorem dL_law_641 : decode cL_law 641 = .ok (.iaload, 1) := by decide +kernel
theorem dL_law_642 : decode cL_law 642 = .ok (.invokevirtual 81, 3) := by decide +kernel
theorem dL_law_645 : decode cL_law 645 = .ok (.if_icmp .eq 488, 3) := by decide +kernel
theorem dL_law_648 : decode cL_law 648 = .ok (.iconst 0, 1) := by decide +kernel
theorem dL_law_649 : decode cL_law 649 = .ok (.ireturn, 1) := by decide +kernel
theorem dL_law_650 : decode cL_law 650 = .ok (.aload_n 1, 1) := by decide +kernel
theorem dL_law_651 : decode cL_law 651 = .ok (.aload_n 0, 1) := by decide +kernel
theorem dL_law_652 : decode cL_law 652 = .ok (.iload 4, 2) := by decide +kernel
theorem dL_law_654 : decode cL_law 654 = .ok (.iconst 1, 1) := by decide +kernel
theorem dL_law_655 : decode cL_law 655 = .ok (.iadd, 1) := by decide +kernel
theorem dL_law_656 : decode cL_law 656 = .ok (.iaload, 1) := by decide +kernel
theorem dL_law_657 : decode cL_law 657 = .ok (.aload_n 0, 1) := by decide +kernel
theorem dL_law_658 : decode cL_law 658 = .ok (.iload 4, 2) := by decide +kernel
theorem dL_law_660 : decode cL_law 660 = .ok (.iconst 2, 1) := by decide +kernel
theorem dL_law_661 : decode cL_law 661 = .ok (.iadd, 1) := by decide +kernel
theorem dL_law_662 : decode cL_law 662 = .ok (.iaload, 1) := by decide +kernel
theorem dL_law_663 : decode cL_law 663 = .ok (.i2l, 1) := by decide +kernel
theorem dL_law_664 : decode cL_law 664 = .ok (.bipush 32, 2) := by decide +kernel
theorem dL_law_666 : decode cL_law 666 = .ok (.lshl, 1) := by decide +kernel
theorem dL_law_667 : decode cL_law 667 = .ok (.aload_n 0, 1) := by decide +kernel
theorem dL_law_668 : decode cL_law 668 = .ok (.iload 4, 2) := by decide +kernel
theorem dL_law_670 : decode cL_law 670 = .ok (.iconst 3, 1) := by decide +kernel
theorem dL_law_671 : decode cL_law 671 = .ok (.iadd, 1) := by decide +kernel
theorem dL_law_672 : decode cL_law 672 = .ok (.iaload, 1) := by decide +kernel
theorem dL_law_673 : decode cL_law 673 = .ok (.i2l, 1) := by decide +kernel
theorem dL_law_674 : decode cL_law 674 = .ok (.ldc2_w 82, 3) := by decide +kernel
theorem dL_law_677 : decode cL_law 677 = .ok (.land, 1) := by decide +kernel
theorem dL_law_678 : decode cL_law 678 = .ok (.lor, 1) := by decide +kernel
theorem dL_law_679 : decode cL_law 679 = .ok (.invokevirtual 84, 3) := by decide +kernel
theorem dL_law_682 : decode cL_law 682 = .ok (.aload_n 2, 1) := by decide +kernel
theorem dL_law_683 : decode cL_law 683 = .ok (.aload_n 0, 1) := by decide +kernel
theorem dL_law_684 : decode cL_law 684 = .ok (.iload 4, 2) := by decide +kernel
theorem dL_law_686 : decode cL_law 686 = .ok (.iconst 1, 1) := by decide +kernel
theorem dL_law_687 : decode cL_law 687 = .ok (.iadd, 1) := by decide +kernel
theorem dL_law_688 : decode cL_law 688 = .ok (.iaload, 1) := by decide +kernel
theorem dL_law_689 : decode cL_law 689 = .ok (.aload_n 0, 1) := by decide +kernel
theorem dL_law_690 : decode cL_law 690 = .ok (.iload 4, 2) := by decide +kernel
theorem dL_law_692 : decode cL_law 692 = .ok (.iconst 2, 1) := by decide +kernel
theorem dL_law_693 : decode cL_law 693 = .ok (.iadd, 1) := by decide +kernel
theorem dL_law_694 : decode cL_law 694 = .ok (.iaload, 1) := by decide +kernel
theorem dL_law_695 : decode cL_law 695 = .ok (.i2l, 1) := by decide +kernel
theorem dL_law_696 : decode cL_law 696 = .ok (.bipush 32, 2) := by decide +kernel
theorem dL_law_698 : decode cL_law 698 = .ok (.lshl, 1) := by decide +kernel
theorem dL_law_699 : decode cL_law 699 = .ok (.aload_n 0, 1) := by decide +kernel
theorem dL_law_700 : decode cL_law 700 = .ok (.iload 4, 2) := by decide +kernel
theorem dL_law_702 : decode cL_law 702 = .ok (.iconst 3, 1) := by decide +kernel
theorem dL_law_703 : decode cL_law 703 = .ok (.iadd, 1) := by decide +kernel
theorem dL_law_704 : decode cL_law 704 = .ok (.iaload, 1) := by decide +kernel
theorem dL_law_705 : decode cL_law 705 = .ok (.i2l, 1) := by decide +kernel
theorem dL_law_706 : decode cL_law 706 = .ok (.ldc2_w 82, 3) := by decide +kernel
theorem dL_law_709 : decode cL_law 709 = .ok (.land, 1) := by decide +kernel
theorem dL_law_710 : decode cL_law 710 = .ok (.lor, 1) := by decide +kernel
theorem dL_law_711 : decode cL_law 711 = .ok (.invokevirtual 88, 3) := by decide +kernel
theorem dL_law_714 : decode cL_law 714 = .ok (.if_icmp .eq 419, 3) := by decide +kernel
theorem dL_law_717 : decode cL_law 717 = .ok (.iconst 0, 1) := by decide +kernel
theorem dL_law_718 : decode cL_law 718 = .ok (.ireturn, 1) := by decide +kernel
theorem dL_law_719 : decode cL_law 719 = .ok (.aload_n 1, 1) := by decide +kernel
theorem dL_law_720 : decode cL_law 720 = .ok (.aload_n 0, 1) := by decide +kernel
theorem dL_law_721 : decode cL_law 721 = .ok (.iload 4, 2) := by decide +kernel
theorem dL_law_723 : decode cL_law 723 = .ok (.iconst 1, 1) := by decide +kernel
theorem dL_law_724 : decode cL_law 724 = .ok (.iadd, 1) := by decide +kernel
theorem dL_law_725 : decode cL_law 725 = .ok (.iaload, 1) := by decide +kernel
theorem dL_law_726 : decode cL_law 726 = .ok (.aload_n 0, 1) := by decide +kernel
theorem dL_law_727 : decode cL_law 727 = .ok (.iload 4, 2) := by decide +kernel
theorem dL_law_729 : decode cL_law 729 = .ok (.iconst 2, 1) := by decide +kernel
theorem dL_law_730 : decode cL_law 730 = .ok (.iadd, 1) := by decide +kernel
theorem dL_law_731 : decode cL_law 731 = .ok (.iaload, 1) := by decide +kernel
theorem dL_law_732 : decode cL_law 732 = .ok (.invokevirtual 89, 3) := by decide +kernel
theorem dL_law_735 : decode cL_law 735 = .ok (.aload_n 2, 1) := by decide +kernel
theorem dL_law_736 : decode cL_law 736 = .ok (.aload_n 0, 1) := by decide +kernel
theorem dL_law_737 : decode cL_law 737 = .ok (.iload 4, 2) := by decide +kernel
theorem dL_law_739 : decode cL_law 739 = .ok (.iconst 1, 1) := by decide +kernel
theorem dL_law_740 : decode cL_law 740 = .ok (.iadd, 1) := by decide +kernel
theorem dL_law_741 : decode cL_law 741 = .ok (.iaload, 1) := by decide +kernel
theorem dL_law_742 : decode cL_law 742 = .ok (.aload_n 0, 1) := by decide +kernel
theorem dL_law_743 : decode cL_law 743 = .ok (.iload 4, 2) := by decide +kernel
theorem dL_law_745 : decode cL_law 745 = .ok (.iconst 2, 1) := by decide +kernel
theorem dL_law_746 : decode cL_law 746 = .ok (.iadd, 1) := by decide +kernel
theorem dL_law_747 : decode cL_law 747 = .ok (.iaload, 1) := by decide +kernel
theorem dL_law_748 : decode cL_law 748 = .ok (.invokevirtual 92, 3) := by decide +kernel
theorem dL_law_751 : decode cL_law 751 = .ok (.if_icmp .eq 382, 3) := by decide +kernel
theorem dL_law_754 : decode cL_law 754 = .ok (.iconst 0, 1) := by decide +kernel
theorem dL_law_755 : decode cL_law 755 = .ok (.ireturn, 1) := by decide +kernel
theorem dL_law_756 : decode cL_law 756 = .ok (.aload_n 1, 1) := by decide +kernel
theorem dL_law_757 : decode cL_law 757 = .ok (.aload_n 0, 1) := by decide +kernel
theorem dL_law_758 : decode cL_law 758 = .ok (.iload 4, 2) := by decide +kernel
theorem dL_law_760 : decode cL_law 760 = .ok (.iconst 1, 1) := by decide +kernel
theorem dL_law_761 : decode cL_law 761 = .ok (.iadd, 1) := by decide +kernel
theorem dL_law_762 : decode cL_law 762 = .ok (.iaload, 1) := by decide +kernel
theorem dL_law_763 : decode cL_law 763 = .ok (.aload_n 0, 1) := by decide +kernel
theorem dL_law_764 : decode cL_law 764 = .ok (.iload 4, 2) := by decide +kernel
theorem dL_law_766 : decode cL_law 766 = .ok (.iconst 2, 1) := by decide +kernel
theorem dL_law_767 : decode cL_law 767 = .ok (.iadd, 1) := by decide +kernel
theorem dL_law_768 : decode cL_law 768 = .ok (.iaload, 1) := by decide +kernel
theorem dL_law_769 : decode cL_law 769 = .ok (.aload_n 0, 1) := by decide +kernel
theorem dL_law_770 : decode cL_law 770 = .ok (.iload 4, 2) := by decide +kernel
theorem dL_law_772 : decode cL_law 772 = .ok (.iconst 3, 1) := by decide +kernel
theorem dL_law_773 : decode cL_law 773 = .ok (.iadd, 1) := by decide +kernel
theorem dL_law_774 : decode cL_law 774 = .ok (.iaload, 1) := by decide +kernel
theorem dL_law_775 : decode cL_law 775 = .ok (.aload_n 0, 1) := by decide +kernel
theorem dL_law_776 : decode cL_law 776 = .ok (.iload 4, 2) := by decide +kernel
theorem dL_law_778 : decode cL_law 778 = .ok (.iconst 4, 1) := by decide +kernel
theorem dL_law_779 : decode cL_law 779 = .ok (.iadd, 1) := by decide +kernel
theorem dL_law_780 : decode cL_law 780 = .ok (.iaload, 1) := by decide +kernel
theorem dL_law_781 : decode cL_law 781 = .ok (.invokevirtual 93, 3) := by decide +kernel
theorem dL_law_784 : decode cL_law 784 = .ok (.aload_n 2, 1) := by decide +kernel
theorem dL_law_785 : decode cL_law 785 = .ok (.aload_n 0, 1) := by decide +kernel
theorem dL_law_786 : decode cL_law 786 = .ok (.iload 4, 2) := by decide +kernel
theorem dL_law_788 : decode cL_law 788 = .ok (.iconst 1, 1) := by decide +kernel
theorem dL_law_789 : decode cL_law 789 = .ok (.iadd, 1) := by decide +kernel
theorem dL_law_790 : decode cL_law 790 = .ok (.iaload, 1) := by decide +kernel
theorem dL_law_791 : decode cL_law 791 = .ok (.aload_n 0, 1) := by decide +kernel
theorem dL_law_792 : decode cL_law 792 = .ok (.iload 4, 2) := by decide +kernel
theorem dL_law_794 : decode cL_law 794 = .ok (.iconst 2, 1) := by decide +kernel
theorem dL_law_795 : decode cL_law 795 = .ok (.iadd, 1) := by decide +kernel
theorem dL_law_796 : decode cL_law 796 = .ok (.iaload, 1) := by decide +kernel
theorem dL_law_797 : decode cL_law 797 = .ok (.aload_n 0, 1) := by decide +kernel
theorem dL_law_798 : decode cL_law 798 = .ok (.iload 4, 2) := by decide +kernel
theorem dL_law_800 : decode cL_law 800 = .ok (.iconst 3, 1) := by decide +kernel
theorem dL_law_801 : decode cL_law 801 = .ok (.iadd, 1) := by decide +kernel
theorem dL_law_802 : decode cL_law 802 = .ok (.iaload, 1) := by decide +kernel
theorem dL_law_803 : decode cL_law 803 = .ok (.aload_n 0, 1) := by decide +kernel
theorem dL_law_804 : decode cL_law 804 = .ok (.iload 4, 2) := by decide +kernel
theorem dL_law_806 : decode cL_law 806 = .ok (.iconst 4, 1) := by decide +kernel
theorem dL_law_807 : decode cL_law 807 = .ok (.iadd, 1) := by decide +kernel
theorem dL_law_808 : decode cL_law 808 = .ok (.iaload, 1) := by decide +kernel
theorem dL_law_809 : decode cL_law 809 = .ok (.invokevirtual 97, 3) := by decide +kernel
theorem dL_law_812 : decode cL_law 812 = .ok (.if_icmp .eq 321, 3) := by decide +kernel
theorem dL_law_815 : decode cL_law 815 = .ok (.iconst 0, 1) := by decide +kernel
theorem dL_law_816 : decode cL_law 816 = .ok (.ireturn, 1) := by decide +kernel
theorem dL_law_817 : decode cL_law 817 = .ok (.aload_n 1, 1) := by decide +kernel
theorem dL_law_818 : decode cL_law 818 = .ok (.aload_n 0, 1) := by decide +kernel
theorem dL_law_819 : decode cL_law 819 = .ok (.iload 4, 2) := by decide +kernel
theorem dL_law_821 : decode cL_law 821 = .ok (.iconst 1, 1) := by decide +kernel
theorem dL_law_822 : decode cL_law 822 = .ok (.iadd, 1) := by decide +kernel
theorem dL_law_823 : decode cL_law 823 = .ok (.iaload, 1) := by decide +kernel
theorem dL_law_824 : decode cL_law 824 = .ok (.aload_n 0, 1) := by decide +kernel
theorem dL_law_825 : decode cL_law 825 = .ok (.iload 4, 2) := by decide +kernel
theorem dL_law_827 : decode cL_law 827 = .ok (.iconst 2, 1) := by decide +kernel
theorem dL_law_828 : decode cL_law 828 = .ok (.iadd, 1) := by decide +kernel
theorem dL_law_829 : decode cL_law 829 = .ok (.iaload, 1) := by decide +kernel
theorem dL_law_830 : decode cL_law 830 = .ok (.invokevirtual 98, 3) := by decide +kernel
theorem dL_law_833 : decode cL_law 833 = .ok (.aload_n 2, 1) := by decide +kernel
theorem dL_law_834 : decode cL_law 834 = .ok (.aload_n 0, 1) := by decide +kernel
theorem dL_law_835 : decode cL_law 835 = .ok (.iload 4, 2) := by decide +kernel
theorem dL_law_837 : decode cL_law 837 = .ok (.iconst 1, 1) := by decide +kernel
theorem dL_law_838 : decode cL_law 838 = .ok (.iadd, 1) := by decide +kernel
theorem dL_law_839 : decode cL_law 839 = .ok (.iaload, 1) := by decide +kernel
theorem dL_law_840 : decode cL_law 840 = .ok (.aload_n 0, 1) := by decide +kernel
theorem dL_law_841 : decode cL_law 841 = .ok (.iload 4, 2) := by decide +kernel
theorem dL_law_843 : decode cL_law 843 = .ok (.iconst 2, 1) := by decide +kernel
theorem dL_law_844 : decode cL_law 844 = .ok (.iadd, 1) := by decide +kernel
theorem dL_law_845 : decode cL_law 845 = .ok (.iaload, 1) := by decide +kernel
theorem dL_law_846 : decode cL_law 846 = .ok (.invokevirtual 101, 3) := by decide +kernel
theorem dL_law_849 : decode cL_law 849 = .ok (.if_icmp .eq 284, 3) := by decide +kernel
theorem dL_law_852 : decode cL_law 852 = .ok (.iconst 0, 1) := by decide +kernel
theorem dL_law_853 : decode cL_law 853 = .ok (.ireturn, 1) := by decide +kernel
theorem dL_law_854 : decode cL_law 854 = .ok (.aload_n 1, 1) := by decide +kernel
theorem dL_law_855 : decode cL_law 855 = .ok (.aload_n 0, 1) := by decide +kernel
theorem dL_law_856 : decode cL_law 856 = .ok (.iload 4, 2) := by decide +kernel
theorem dL_law_858 : decode cL_law 858 = .ok (.iconst 1, 1) := by decide +kernel
theorem dL_law_859 : decode cL_law 859 = .ok (.iadd, 1) := by decide +kernel
theorem dL_law_860 : decode cL_law 860 = .ok (.iaload, 1) := by decide +kernel
theorem dL_law_861 : decode cL_law 861 = .ok (.aload_n 0, 1) := by decide +kernel
theorem dL_law_862 : decode cL_law 862 = .ok (.iload 4, 2) := by decide +kernel
theorem dL_law_864 : decode cL_law 864 = .ok (.iconst 2, 1) := by decide +kernel
theorem dL_law_865 : decode cL_law 865 = .ok (.iadd, 1) := by decide +kernel
theorem dL_law_866 : decode cL_law 866 = .ok (.iaload, 1) := by decide +kernel
theorem dL_law_867 : decode cL_law 867 = .ok (.invokevirtual 102, 3) := by decide +kernel
theorem dL_law_870 : decode cL_law 870 = .ok (.aload_n 2, 1) := by decide +kernel
theorem dL_law_871 : decode cL_law 871 = .ok (.aload_n 0, 1) := by decide +kernel
theorem dL_law_872 : decode cL_law 872 = .ok (.iload 4, 2) := by decide +kernel
theorem dL_law_874 : decode cL_law 874 = .ok (.iconst 1, 1) := by decide +kernel
theorem dL_law_875 : decode cL_law 875 = .ok (.iadd, 1) := by decide +kernel
theorem dL_law_876 : decode cL_law 876 = .ok (.iaload, 1) := by decide +kernel
theorem dL_law_877 : decode cL_law 877 = .ok (.aload_n 0, 1) := by decide +kernel
theorem dL_law_878 : decode cL_law 878 = .ok (.iload 4, 2) := by decide +kernel
theorem dL_law_880 : decode cL_law 880 = .ok (.iconst 2, 1) := by decide +kernel
theorem dL_law_881 : decode cL_law 881 = .ok (.iadd, 1) := by decide +kernel
theorem dL_law_882 : decode cL_law 882 = .ok (.iaload, 1) := by decide +kernel
theorem dL_law_883 : decode cL_law 883 = .ok (.invokevirtual 105, 3) := by decide +kernel
theorem dL_law_886 : decode cL_law 886 = .ok (.if_icmp .eq 247, 3) := by decide +kernel
theorem dL_law_889 : decode cL_law 889 = .ok (.iconst 0, 1) := by decide +kernel
theorem dL_law_890 : decode cL_law 890 = .ok (.ireturn, 1) := by decide +kernel
theorem dL_law_891 : decode cL_law 891 = .ok (.aload_n 1, 1) := by decide +kernel
theorem dL_law_892 : decode cL_law 892 = .ok (.aload_n 0, 1) := by decide +kernel
theorem dL_law_893 : decode cL_law 893 = .ok (.iload 4, 2) := by decide +kernel
theorem dL_law_895 : decode cL_law 895 = .ok (.iconst 1, 1) := by decide +kernel
theorem dL_law_896 : decode cL_law 896 = .ok (.iadd, 1) := by decide +kernel
theorem dL_law_897 : decode cL_law 897 = .ok (.iaload, 1) := by decide +kernel
theorem dL_law_898 : decode cL_law 898 = .ok (.invokevirtual 106, 3) := by decide +kernel
theorem dL_law_901 : decode cL_law 901 = .ok (.aload_n 2, 1) := by decide +kernel
theorem dL_law_902 : decode cL_law 902 = .ok (.aload_n 0, 1) := by decide +kernel
theorem dL_law_903 : decode cL_law 903 = .ok (.iload 4, 2) := by decide +kernel
theorem dL_law_905 : decode cL_law 905 = .ok (.iconst 1, 1) := by decide +kernel
theorem dL_law_906 : decode cL_law 906 = .ok (.iadd, 1) := by decide +kernel
theorem dL_law_907 : decode cL_law 907 = .ok (.iaload, 1) := by decide +kernel
theorem dL_law_908 : decode cL_law 908 = .ok (.invokevirtual 109, 3) := by decide +kernel
theorem dL_law_911 : decode cL_law 911 = .ok (.if_icmp .eq 222, 3) := by decide +kernel
theorem dL_law_914 : decode cL_law 914 = .ok (.iconst 0, 1) := by decide +kernel
theorem dL_law_915 : decode cL_law 915 = .ok (.ireturn, 1) := by decide +kernel
theorem dL_law_916 : decode cL_law 916 = .ok (.aload_n 1, 1) := by decide +kernel
theorem dL_law_917 : decode cL_law 917 = .ok (.aload_n 0, 1) := by decide +kernel
theorem dL_law_918 : decode cL_law 918 = .ok (.iload 4, 2) := by decide +kernel
theorem dL_law_920 : decode cL_law 920 = .ok (.iconst 1, 1) := by decide +kernel
theorem dL_law_921 : decode cL_law 921 = .ok (.iadd, 1) := by decide +kernel
theorem dL_law_922 : decode cL_law 922 = .ok (.iaload, 1) := by decide +kernel
theorem dL_law_923 : decode cL_law 923 = .ok (.aload_n 0, 1) := by decide +kernel
theorem dL_law_924 : decode cL_law 924 = .ok (.iload 4, 2) := by decide +kernel
theorem dL_law_926 : decode cL_law 926 = .ok (.iconst 2, 1) := by decide +kernel
theorem dL_law_927 : decode cL_law 927 = .ok (.iadd, 1) := by decide +kernel
theorem dL_law_928 : decode cL_law 928 = .ok (.iaload, 1) := by decide +kernel
theorem dL_law_929 : decode cL_law 929 = .ok (.invokevirtual 110, 3) := by decide +kernel
theorem dL_law_932 : decode cL_law 932 = .ok (.aload_n 2, 1) := by decide +kernel
theorem dL_law_933 : decode cL_law 933 = .ok (.aload_n 0, 1) := by decide +kernel
theorem dL_law_934 : decode cL_law 934 = .ok (.iload 4, 2) := by decide +kernel
theorem dL_law_936 : decode cL_law 936 = .ok (.iconst 1, 1) := by decide +kernel
theorem dL_law_937 : decode cL_law 937 = .ok (.iadd, 1) := by decide +kernel
theorem dL_law_938 : decode cL_law 938 = .ok (.iaload, 1) := by decide +kernel
theorem dL_law_939 : decode cL_law 939 = .ok (.aload_n 0, 1) := by decide +kernel
theorem dL_law_940 : decode cL_law 940 = .ok (.iload 4, 2) := by decide +kernel
theorem dL_law_942 : decode cL_law 942 = .ok (.iconst 2, 1) := by decide +kernel
theorem dL_law_943 : decode cL_law 943 = .ok (.iadd, 1) := by decide +kernel
theorem dL_law_944 : decode cL_law 944 = .ok (.iaload, 1) := by decide +kernel
theorem dL_law_945 : decode cL_law 945 = .ok (.invokevirtual 113, 3) := by decide +kernel
theorem dL_law_948 : decode cL_law 948 = .ok (.if_icmp .eq 185, 3) := by decide +kernel
theorem dL_law_951 : decode cL_law 951 = .ok (.iconst 0, 1) := by decide +kernel
theorem dL_law_952 : decode cL_law 952 = .ok (.ireturn, 1) := by decide +kernel
theorem dL_law_953 : decode cL_law 953 = .ok (.aload_n 1, 1) := by decide +kernel
theorem dL_law_954 : decode cL_law 954 = .ok (.aload_n 0, 1) := by decide +kernel
theorem dL_law_955 : decode cL_law 955 = .ok (.iload 4, 2) := by decide +kernel
theorem dL_law_957 : decode cL_law 957 = .ok (.iconst 1, 1) := by decide +kernel
theorem dL_law_958 : decode cL_law 958 = .ok (.iadd, 1) := by decide +kernel
theorem dL_law_959 : decode cL_law 959 = .ok (.iaload, 1) := by decide +kernel
theorem dL_law_960 : decode cL_law 960 = .ok (.invokevirtual 114, 3) := by decide +kernel
theorem dL_law_963 : decode cL_law 963 = .ok (.aload_n 2, 1) := by decide +kernel
theorem dL_law_964 : decode cL_law 964 = .ok (.aload_n 0, 1) := by decide +kernel
theorem dL_law_965 : decode cL_law 965 = .ok (.iload 4, 2) := by decide +kernel
theorem dL_law_967 : decode cL_law 967 = .ok (.iconst 1, 1) := by decide +kernel
theorem dL_law_968 : decode cL_law 968 = .ok (.iadd, 1) := by decide +kernel
theorem dL_law_969 : decode cL_law 969 = .ok (.iaload, 1) := by decide +kernel
theorem dL_law_970 : decode cL_law 970 = .ok (.invokevirtual 117, 3) := by decide +kernel
theorem dL_law_973 : decode cL_law 973 = .ok (.if_icmp .eq 160, 3) := by decide +kernel
theorem dL_law_976 : decode cL_law 976 = .ok (.iconst 0, 1) := by decide +kernel
theorem dL_law_977 : decode cL_law 977 = .ok (.ireturn, 1) := by decide +kernel
theorem dL_law_978 : decode cL_law 978 = .ok (.aload_n 1, 1) := by decide +kernel
theorem dL_law_979 : decode cL_law 979 = .ok (.aload_n 0, 1) := by decide +kernel
theorem dL_law_980 : decode cL_law 980 = .ok (.iload 4, 2) := by decide +kernel
theorem dL_law_982 : decode cL_law 982 = .ok (.iconst 1, 1) := by decide +kernel
theorem dL_law_983 : decode cL_law 983 = .ok (.iadd, 1) := by decide +kernel
theorem dL_law_984 : decode cL_law 984 = .ok (.iaload, 1) := by decide +kernel
theorem dL_law_985 : decode cL_law 985 = .ok (.invokevirtual 118, 3) := by decide +kernel
theorem dL_law_988 : decode cL_law 988 = .ok (.aload_n 2, 1) := by decide +kernel
theorem dL_law_989 : decode cL_law 989 = .ok (.aload_n 0, 1) := by decide +kernel
theorem dL_law_990 : decode cL_law 990 = .ok (.iload 4, 2) := by decide +kernel
theorem dL_law_992 : decode cL_law 992 = .ok (.iconst 1, 1) := by decide +kernel
theorem dL_law_993 : decode cL_law 993 = .ok (.iadd, 1) := by decide +kernel
theorem dL_law_994 : decode cL_law 994 = .ok (.iaload, 1) := by decide +kernel
theorem dL_law_995 : decode cL_law 995 = .ok (.invokevirtual 121, 3) := by decide +kernel
theorem dL_law_998 : decode cL_law 998 = .ok (.if_icmp .eq 135, 3) := by decide +kernel
theorem dL_law_1001 : decode cL_law 1001 = .ok (.iconst 0, 1) := by decide +kernel
theorem dL_law_1002 : decode cL_law 1002 = .ok (.ireturn, 1) := by decide +kernel
theorem dL_law_1003 : decode cL_law 1003 = .ok (.aload_n 1, 1) := by decide +kernel
theorem dL_law_1004 : decode cL_law 1004 = .ok (.aload_n 0, 1) := by decide +kernel
theorem dL_law_1005 : decode cL_law 1005 = .ok (.iload 4, 2) := by decide +kernel
theorem dL_law_1007 : decode cL_law 1007 = .ok (.iconst 1, 1) := by decide +kernel
theorem dL_law_1008 : decode cL_law 1008 = .ok (.iadd, 1) := by decide +kernel
theorem dL_law_1009 : decode cL_law 1009 = .ok (.iaload, 1) := by decide +kernel
theorem dL_law_1010 : decode cL_law 1010 = .ok (.aload_n 0, 1) := by decide +kernel
theorem dL_law_1011 : decode cL_law 1011 = .ok (.iload 4, 2) := by decide +kernel
theorem dL_law_1013 : decode cL_law 1013 = .ok (.iconst 2, 1) := by decide +kernel
theorem dL_law_1014 : decode cL_law 1014 = .ok (.iadd, 1) := by decide +kernel
theorem dL_law_1015 : decode cL_law 1015 = .ok (.iaload, 1) := by decide +kernel
theorem dL_law_1016 : decode cL_law 1016 = .ok (.invokevirtual 122, 3) := by decide +kernel
theorem dL_law_1019 : decode cL_law 1019 = .ok (.aload_n 2, 1) := by decide +kernel
theorem dL_law_1020 : decode cL_law 1020 = .ok (.aload_n 0, 1) := by decide +kernel
theorem dL_law_1021 : decode cL_law 1021 = .ok (.iload 4, 2) := by decide +kernel
theorem dL_law_1023 : decode cL_law 1023 = .ok (.iconst 1, 1) := by decide +kernel
theorem dL_law_1024 : decode cL_law 1024 = .ok (.iadd, 1) := by decide +kernel
theorem dL_law_1025 : decode cL_law 1025 = .ok (.iaload, 1) := by decide +kernel
theorem dL_law_1026 : decode cL_law 1026 = .ok (.aload_n 0, 1) := by decide +kernel
theorem dL_law_1027 : decode cL_law 1027 = .ok (.iload 4, 2) := by decide +kernel
theorem dL_law_1029 : decode cL_law 1029 = .ok (.iconst 2, 1) := by decide +kernel
theorem dL_law_1030 : decode cL_law 1030 = .ok (.iadd, 1) := by decide +kernel
theorem dL_law_1031 : decode cL_law 1031 = .ok (.iaload, 1) := by decide +kernel
theorem dL_law_1032 : decode cL_law 1032 = .ok (.invokevirtual 125, 3) := by decide +kernel
theorem dL_law_1035 : decode cL_law 1035 = .ok (.if_icmp .eq 98, 3) := by decide +kernel
theorem dL_law_1038 : decode cL_law 1038 = .ok (.iconst 0, 1) := by decide +kernel
theorem dL_law_1039 : decode cL_law 1039 = .ok (.ireturn, 1) := by decide +kernel
theorem dL_law_1040 : decode cL_law 1040 = .ok (.aload_n 1, 1) := by decide +kernel
theorem dL_law_1041 : decode cL_law 1041 = .ok (.aload_n 0, 1) := by decide +kernel
theorem dL_law_1042 : decode cL_law 1042 = .ok (.iload 4, 2) := by decide +kernel
theorem dL_law_1044 : decode cL_law 1044 = .ok (.iconst 1, 1) := by decide +kernel
theorem dL_law_1045 : decode cL_law 1045 = .ok (.iadd, 1) := by decide +kernel
theorem dL_law_1046 : decode cL_law 1046 = .ok (.iaload, 1) := by decide +kernel
theorem dL_law_1047 : decode cL_law 1047 = .ok (.aload_n 0, 1) := by decide +kernel
theorem dL_law_1048 : decode cL_law 1048 = .ok (.iload 4, 2) := by decide +kernel
theorem dL_law_1050 : decode cL_law 1050 = .ok (.iconst 2, 1) := by decide +kernel
theorem dL_law_1051 : decode cL_law 1051 = .ok (.iadd, 1) := by decide +kernel
theorem dL_law_1052 : decode cL_law 1052 = .ok (.iaload, 1) := by decide +kernel
theorem dL_law_1053 : decode cL_law 1053 = .ok (.aload_n 3, 1) := by decide +kernel
theorem dL_law_1054 : decode cL_law 1054 = .ok (.invokestatic 126, 3) := by decide +kernel
theorem dL_law_1057 : decode cL_law 1057 = .ok (.istore 5, 2) := by decide +kernel
theorem dL_law_1059 : decode cL_law 1059 = .ok (.aload_n 2, 1) := by decide +kernel
theorem dL_law_1060 : decode cL_law 1060 = .ok (.aload_n 0, 1) := by decide +kernel
theorem dL_law_1061 : decode cL_law 1061 = .ok (.iload 4, 2) := by decide +kernel
theorem dL_law_1063 : decode cL_law 1063 = .ok (.iconst 1, 1) := by decide +kernel
theorem dL_law_1064 : decode cL_law 1064 = .ok (.iadd, 1) := by decide +kernel
theorem dL_law_1065 : decode cL_law 1065 = .ok (.iaload, 1) := by decide +kernel
theorem dL_law_1066 : decode cL_law 1066 = .ok (.aload_n 0, 1) := by decide +kernel
theorem dL_law_1067 : decode cL_law 1067 = .ok (.iload 4, 2) := by decide +kernel
theorem dL_law_1069 : decode cL_law 1069 = .ok (.iconst 2, 1) := by decide +kernel
theorem dL_law_1070 : decode cL_law 1070 = .ok (.iadd, 1) := by decide +kernel
theorem dL_law_1071 : decode cL_law 1071 = .ok (.iaload, 1) := by decide +kernel
theorem dL_law_1072 : decode cL_law 1072 = .ok (.invokevirtual 131, 3) := by decide +kernel
theorem dL_law_1075 : decode cL_law 1075 = .ok (.istore 6, 2) := by decide +kernel
theorem dL_law_1077 : decode cL_law 1077 = .ok (.aload_n 2, 1) := by decide +kernel
theorem dL_law_1078 : decode cL_law 1078 = .ok (.invokevirtual 132, 3) := by decide +kernel
theorem dL_law_1081 : decode cL_law 1081 = .ok (.iload 5, 2) := by decide +kernel
theorem dL_law_1083 : decode cL_law 1083 = .ok (.if_icmp .eq 5, 3) := by decide +kernel
theorem dL_law_1086 : decode cL_law 1086 = .ok (.iconst 0, 1) := by decide +kernel
theorem dL_law_1087 : decode cL_law 1087 = .ok (.ireturn, 1) := by decide +kernel
theorem dL_law_1088 : decode cL_law 1088 = .ok (.iload 5, 2) := by decide +kernel
theorem dL_law_1090 : decode cL_law 1090 = .ok (.ifCond .ne 15, 3) := by decide +kernel
theorem dL_law_1093 : decode cL_law 1093 = .ok (.aload_n 3, 1) := by decide +kernel
theorem dL_law_1094 : decode cL_law 1094 = .ok (.iconst 0, 1) := by decide +kernel
theorem dL_law_1095 : decode cL_law 1095 = .ok (.laload, 1) := by decide +kernel
theorem dL_law_1096 : decode cL_law 1096 = .ok (.iload 6, 2) := by decide +kernel
theorem dL_law_1098 : decode cL_law 1098 = .ok (.i2l, 1) := by decide +kernel
theorem dL_law_1099 : decode cL_law 1099 = .ok (.lcmp, 1) := by decide +kernel
theorem dL_law_1100 : decode cL_law 1100 = .ok (.ifCond .eq 5, 3) := by decide +kernel
theorem dL_law_1103 : decode cL_law 1103 = .ok (.iconst 0, 1) := by decide +kernel
theorem dL_law_1104 : decode cL_law 1104 = .ok (.ireturn, 1) := by decide +kernel
theorem dL_law_1105 : decode cL_law 1105 = .ok (.goto 28, 3) := by decide +kernel
theorem dL_law_1108 : decode cL_law 1108 = .ok (.aload_n 1, 1) := by decide +kernel
theorem dL_law_1109 : decode cL_law 1109 = .ok (.aload_n 0, 1) := by decide +kernel
theorem dL_law_1110 : decode cL_law 1110 = .ok (.iload 4, 2) := by decide +kernel
theorem dL_law_1112 : decode cL_law 1112 = .ok (.iconst 1, 1) := by decide +kernel
theorem dL_law_1113 : decode cL_law 1113 = .ok (.iadd, 1) := by decide +kernel
theorem dL_law_1114 : decode cL_law 1114 = .ok (.iaload, 1) := by decide +kernel
theorem dL_law_1115 : decode cL_law 1115 = .ok (.invokevirtual 135, 3) := by decide +kernel
theorem dL_law_1118 : decode cL_law 1118 = .ok (.aload_n 2, 1) := by decide +kernel
theorem dL_law_1119 : decode cL_law 1119 = .ok (.aload_n 0, 1) := by decide +kernel
theorem dL_law_1120 : decode cL_law 1120 = .ok (.iload 4, 2) := by decide +kernel
theorem dL_law_1122 : decode cL_law 1122 = .ok (.iconst 1, 1) := by decide +kernel
theorem dL_law_1123 : decode cL_law 1123 = .ok (.iadd, 1) := by decide +kernel
theorem dL_law_1124 : decode cL_law 1124 = .ok (.iaload, 1) := by decide +kernel
theorem dL_law_1125 : decode cL_law 1125 = .ok (.invokevirtual 138, 3) := by decide +kernel
theorem dL_law_1128 : decode cL_law 1128 = .ok (.if_icmp .eq 5, 3) := by decide +kernel
theorem dL_law_1131 : decode cL_law 1131 = .ok (.iconst 0, 1) := by decide +kernel
theorem dL_law_1132 : decode cL_law 1132 = .ok (.ireturn, 1) := by decide +kernel
theorem dL_law_1133 : decode cL_law 1133 = .ok (.iinc 4 5, 3) := by decide +kernel
theorem dL_law_1136 : decode cL_law 1136 = .ok (.goto (-1113), 3) := by decide +kernel
theorem dL_law_1139 : decode cL_law 1139 = .ok (.iconst 1, 1) := by decide +kernel
theorem dL_law_1140 : decode cL_law 1140 = .ok (.ireturn, 1) := by decide +kernel
end
section
/-! classes, and what the constant pools name: every entry with its place among the words of the tables -/
def j_cls : List vw_C := [(RX0, TX0, 2), (RX1, TX1, 3), (RX2, TX2, 5), (RX3, TX3, 7), (RX4, TX4, 5), (RX5, TX5, 3), (RX6, TX6, 3), (RX7, TX7, 9), (RX8, TX8, 7), (RX9, TX9, 12), (RX10, TX10, 49)]
def j_cn (o : Nat) : String := match o with
  | 0 => RX0
  | 1 => RX1
  | 2 => RX2
  | 3 => RX3
  | 4 => RX4
  | 5 => RX5
  | 6 => RX6
  | 7 => RX7
  | 8 => RX8
  | 9 => RX9
  | 10 => RX10
  | _ => RL
def j_ty (o : Nat) : Nat → FieldType := match o with
  | 0 => tyX0
  | 1 => tyX1
  | 2 => tyX2
  | 3 => tyX3
  | 4 => tyX4
  | 5 => tyX5
  | 6 => tyX6
  | 7 => tyX7
  | 8 => tyX8
  | 9 => tyX9
  | 10 => tyX10
  | _ => fun _ => .int
theorem j_iX0 : ∀ w ∈ wsX00, w ∈ lw_tbl := by decide +kernel
theorem j_iX1 : ∀ w ∈ wsX10, w ∈ lw_tbl := by decide +kernel
theorem j_iX2 : ∀ w ∈ wsX20, w ∈ lw_tbl := by decide +kernel
theorem j_iX3 : ∀ w ∈ wsX30, w ∈ lw_tbl := by decide +kernel
theorem j_iX4 : ∀ w ∈ wsX40, w ∈ lw_tbl := by decide +kernel
theorem j_iX5 : ∀ w ∈ wsX50, w ∈ lw_tbl := by decide +kernel
theorem j_iX6 : ∀ w ∈ wsX60, w ∈ lw_tbl := by decide +kernel
theorem j_iX7 : ∀ w ∈ wsX70, w ∈ lw_tbl := by decide +kernel
theorem j_iX8 : ∀ w ∈ wsX80, w ∈ lw_tbl := by decide +kernel
theorem j_iX9 : ∀ w ∈ wsX90, w ∈ lw_tbl := by decide +kernel
theorem j_iX10 : ∀ w ∈ wsX100, w ∈ lw_tbl := by decide +kernel
theorem j_cf : ∀ (i : Nat) (C : String) (T : u_T) (N : Nat), j_cls[i]? = some (C, T, N) → (∀ w ∈ u_ws C T N, w ∈ lw_tbl) ∧ (∀ k, k < N → parseFieldDescriptor (T k).2.2.1 = some (j_ty i k)) ∧ (∀ a, a < N → ∀ b, b < N → a ≠ b → (T a).2.1 ≠ (T b).2.1) := by
  intro i C T N h
  match i, h with
  | 0, h => cases h; exact ⟨j_iX0, tyX0_ok, nmX0⟩
  | 1, h => cases h; exact ⟨j_iX1, tyX1_ok, nmX1⟩
  | 2, h => cases h; exact ⟨j_iX2, tyX2_ok, nmX2⟩
  | 3, h => cases h; exact ⟨j_iX3, tyX3_ok, nmX3⟩
  | 4, h => cases h; exact ⟨j_iX4, tyX4_ok, nmX4⟩
  | 5, h => cases h; exact ⟨j_iX5, tyX5_ok, nmX5⟩
  | 6, h => cases h; exact ⟨j_iX6, tyX6_ok, nmX6⟩
  | 7, h => cases h; exact ⟨j_iX7, tyX7_ok, nmX7⟩
  | 8, h => cases h; exact ⟨j_iX8, tyX8_ok, nmX8⟩
  | 9, h => cases h; exact ⟨j_iX9, tyX9_ok, nmX9⟩
  | 10, h => cases h; exact ⟨j_iX10, tyX10_ok, nmX10⟩
  | n + 11, h => simp [j_cls] at h
/-- getfield and putfield: (own, index) names field k of the class with the number ci -/
def j_ft : List ((Nat × Nat) × (Nat × Nat × Bool) × Nat) := [((3, 9), (3, 0, true), 80), ((3, 15), (3, 1, true), 81), ((3, 18), (3, 2, true), 82), ((3, 21), (3, 3, true), 83), ((3, 24), (3, 4, true), 84), ((9, 216), (3, 4, true), 85), ((3, 27), (3, 5, true), 86), ((9, 226), (3, 5, true), 87), ((3, 30), (3, 6, false), 88), ((9, 259), (3, 6, false), 89), ((7, 9), (7, 0, true), 112), ((9, 239), (7, 0, true), 113), ((7, 15), (7, 1, true), 114), ((9, 242), (7, 1, true), 115), ((7, 18), (7, 2, true), 116), ((9, 245), (7, 2, true), 117), ((7, 21), (7, 3, true), 118), ((9, 248), (7, 3, true), 119), ((7, 24), (7, 4, true), 120), ((9, 251), (7, 4, true), 121), ((7, 27), (7, 5, true), 122), ((9, 254), (7, 5, true), 123), ((7, 30), (7, 6, false), 124), ((9, 265), (7, 6, false), 125), ((7, 34), (7, 7, true), 126), ((7, 37), (7, 8, false), 127), ((2, 9), (2, 0, true), 153), ((2, 15), (2, 1, true), 154), ((9, 279), (2, 1, true), 155), ((2, 18), (2, 2, true), 156), ((9, 286), (2, 2, true), 157), ((2, 21), (2, 3, true), 158), ((2, 24), (2, 4, false), 159), ((0, 9), (0, 0, true), 177), ((6, 30), (0, 0, true), 178), ((9, 139), (0, 0, true), 179), ((0, 15), (0, 1, false), 180), ((6, 33), (0, 1, false), 181), ((9, 136), (0, 1, false), 182), ((5, 11), (5, 0, false), 195), ((5, 15), (5, 1, false), 196), ((5, 18), (5, 2, false), 197), ((1, 9), (1, 0, true), 217), ((1, 15), (1, 1, true), 218), ((1, 18), (1, 2, false), 219), ((9, 266), (1, 2, false), 220), ((6, 12), (6, 0, true), 228), ((9, 147), (6, 0, true), 229), ((6, 18), (6, 1, true), 230), ((6, 22), (6, 2, true), 231), ((8, 9), (8, 0, true), 245), ((9, 295), (8, 0, true), 246), ((8, 15), (8, 1, false), 247), ((8, 19), (8, 2, false), 248), ((8, 22), (8, 3, false), 249), ((8, 25), (8, 4, false), 250), ((8, 29), (8, 5, false), 251), ((8, 32), (8, 6, false), 252), ((4, 11), (4, 0, true), 276), ((9, 204), (4, 0, true), 277), ((4, 15), (4, 1, true), 278), ((9, 213), (4, 1, true), 279), ((4, 18), (4, 2, true), 280), ((4, 21), (4, 3, true), 281), ((4, 24), (4, 4, false), 282), ((9, 267), (4, 4, false), 283), ((9, 10), (9, 0, true), 295), ((9, 19), (9, 1, true), 296), ((9, 26), (9, 2, true), 297), ((9, 33), (9, 3, true), 298), ((9, 40), (9, 4, true), 299), ((9, 47), (9, 5, true), 300), ((9, 54), (9, 6, true), 301), ((9, 61), (9, 7, true), 302), ((9, 65), (9, 8, true), 303), ((9, 72), (9, 9, true), 304), ((9, 76), (9, 10, true), 305), ((9, 79), (9, 11, false), 306), ((10, 117), (10, 0, false), 836), ((10, 134), (10, 1, false), 837), ((10, 121), (10, 2, false), 838), ((10, 148), (10, 3, false), 839), ((10, 151), (10, 4, false), 840), ((10, 212), (10, 5, false), 841), ((10, 161), (10, 6, false), 842), ((10, 236), (10, 7, false), 843), ((10, 205), (10, 8, false), 844), ((10, 9), (10, 9, true), 845), ((10, 13), (10, 10, true), 846), ((10, 16), (10, 11, true), 847), ((10, 19), (10, 12, true), 848), ((10, 22), (10, 13, true), 849), ((10, 25), (10, 14, true), 850), ((10, 28), (10, 15, true), 851), ((10, 31), (10, 16, true), 852), ((10, 34), (10, 17, true), 853), ((10, 37), (10, 18, true), 854), ((10, 40), (10, 19, true), 855), ((10, 43), (10, 20, true), 856), ((10, 46), (10, 21, true), 857), ((10, 49), (10, 22, true), 858), ((10, 52), (10, 23, true), 859), ((10, 55), (10, 24, true), 860), ((10, 58), (10, 25, true), 861), ((10, 62), (10, 26, true), 862), ((10, 65), (10, 27, true), 863), ((10, 68), (10, 28, true), 864), ((10, 71), (10, 29, true), 865), ((10, 74), (10, 30, true), 866), ((10, 77), (10, 31, true), 867), ((10, 80), (10, 32, true), 868), ((10, 83), (10, 33, true), 869), ((10, 86), (10, 34, true), 870), ((10, 89), (10, 35, true), 871), ((10, 92), (10, 36, true), 872), ((10, 95), (10, 37, true), 873), ((10, 98), (10, 38, true), 874), ((10, 101), (10, 39, true), 875), ((10, 104), (10, 40, true), 876), ((10, 107), (10, 41, true), 877), ((10, 111), (10, 42, true), 878), ((10, 114), (10, 43, false), 879), ((10, 179), (10, 44, false), 880), ((10, 176), (10, 45, false), 881), ((10, 173), (10, 46, false), 882), ((10, 182), (10, 47, false), 883), ((10, 189), (10, 48, false), 884)]
def j_fck (q : (Nat × Nat) × (Nat × Nat × Bool) × Nat) : Bool := match j_cls[q.2.1.1]? with
  | some (C, T, N) => decide (q.2.1.2.1 < N) && (decide ((T q.2.1.2.1).1 = C) && (decide ((T q.2.1.2.1).2.2.2 = q.2.1.2.2) && decide (lw_tbl[q.2.2]? = some (.fieldLink (j_cn q.1.1) q.1.2 C (T q.2.1.2.1).2.1 (T q.2.1.2.1).2.2.1))))
  | none => false
theorem j_ft_ok : j_ft.all j_fck = true := by decide +kernel
def j_fl (o i : Nat) : Option (Nat × Nat × Bool) := (j_ft.find? (fun q => q.1 == (o, i))).map (fun q => q.2.1)
theorem j_fl_ok {o i ci k : Nat} {b : Bool} (h : j_fl o i = some (ci, k, b)) : ∃ (C : String) (T : u_T) (N : Nat), j_cls[ci]? = some (C, T, N) ∧ k < N ∧ (T k).1 = C ∧ (T k).2.2.2 = b ∧ Cond.fieldLink (j_cn o) i C (T k).2.1 (T k).2.2.1 ∈ lw_tbl := by
  unfold j_fl at h
  obtain ⟨q, hq, hk⟩ := Option.map_eq_some_iff.mp h
  have h1 := List.all_eq_true.mp j_ft_ok q (List.mem_of_find?_eq_some hq)
  have h2 := List.find?_some hq
  simp only [beq_iff_eq] at h2
  obtain ⟨⟨a, b⟩, ⟨x, y, z⟩, z2⟩ := q
  cases h2
  cases hk
  unfold j_fck at h1
  dsimp only at h1
  split at h1
  next C T N e =>
    simp only [Bool.and_eq_true, decide_eq_true_eq] at h1
    exact ⟨C, T, N, e, h1.1, h1.2.1, h1.2.2.1, List.mem_of_getElem? h1.2.2.2⟩
  next => cases h1
/-- invokevirtual and invokestatic: (own, index) names the method y of n parameters; static or not -/
def j_mt : List ((Nat × Nat) × (MethodName × Nat × Bool × Nat) × Nat × Nat × Nat × Nat) := [((11, 19), (yX9_person, 2, false, 9), 332, 333, 334, 49), ((9, 83), (yX3_isFull, 0, false, 3), 336, 337, 338, 50), ((9, 87), (yX3_isParent, 1, false, 3), 340, 341, 342, 50), ((3, 34), (yX3_has, 1, false, 3), 344, 345, 346, 50), ((9, 91), (yX3_add, 2, false, 3), 348, 349, 350, 50), ((11, 23), (yX9_master, 1, false, 9), 352, 353, 354, 49), ((9, 95), (yX3_isAlive, 1, false, 3), 356, 357, 358, 50), ((9, 98), (yX3_isMaster, 1, false, 3), 360, 361, 362, 50), ((3, 38), (yX3_isAlive, 1, false, 3), 364, 357, 358, 50), ((9, 101), (yX3_raise, 2, false, 3), 365, 366, 367, 50), ((11, 28), (yX9_death, 2, false, 9), 369, 370, 371, 49), ((9, 105), (yX3_bury, 3, false, 3), 373, 374, 375, 50), ((11, 33), (yX9_days, 1, false, 9), 377, 378, 379, 49), ((9, 109), (yX9_isDay, 1, true, 9), 381, 382, 49, 49), ((11, 38), (yX9_term, 4, false, 9), 384, 385, 386, 49), ((9, 112), (yX3_has, 1, false, 3), 388, 345, 346, 50), ((9, 115), (yX7_isFull, 0, false, 7), 389, 390, 391, 51), ((9, 116), (yX7_add, 5, false, 7), 393, 394, 395, 51), ((11, 43), (yX9_back, 1, false, 9), 397, 398, 399, 49), ((9, 119), (yX7_has, 1, false, 7), 401, 402, 403, 51), ((9, 120), (yX7_isTakenBack, 1, false, 7), 405, 406, 407, 51), ((9, 123), (yX7_takeBack, 2, false, 7), 409, 410, 411, 51), ((11, 47), (yX9_give, 3, false, 9), 413, 414, 415, 49), ((9, 126), (yX2_isFull, 0, false, 2), 417, 418, 419, 52), ((9, 127), (yX2_add, 4, false, 2), 421, 422, 423, 52), ((11, 52), (yX9_feed, 1, false, 9), 425, 426, 427, 49), ((9, 130), (yX0_hasRoomFor, 1, false, 0), 429, 430, 431, 53), ((0, 19), (yX0_byteOf, 2, true, 0), 433, 434, 53, 53), ((9, 133), (yX0_add, 1, false, 0), 436, 437, 438, 53), ((11, 56), (yX9_end, 1, false, 9), 440, 441, 442, 49), ((11, 60), (yX9_fault, 0, false, 9), 444, 445, 446, 49), ((9, 143), (yX5_firstFault, 2, false, 5), 448, 449, 450, 54), ((5, 21), (yX5_goesOnWith, 1, false, 5), 452, 454, 0, 54), ((5, 29), (yX5_beginsUnit, 1, false, 5), 456, 458, 1, 54), ((5, 38), (yX5_isWord, 1, true, 5), 460, 461, 54, 54), ((5, 32), (yX5_isDigit, 1, true, 5), 463, 464, 54, 54), ((5, 35), (yX5_followsUnit, 1, false, 5), 466, 468, 2, 54), ((5, 25), (yX5_isWhole, 0, false, 5), 470, 472, 3, 54), ((11, 65), (yX9_statute, 1, false, 9), 474, 475, 476, 49), ((9, 150), (yX1_isFull, 0, false, 1), 478, 479, 480, 56), ((9, 151), (yX9_fault, 0, false, 9), 482, 445, 446, 49), ((9, 155), (yX6_add, 3, false, 6), 483, 484, 485, 55), ((6, 26), (yX1_add, 2, false, 1), 487, 488, 489, 56), ((11, 69), (yX9_force, 2, false, 9), 494, 495, 496, 49), ((9, 158), (yX9_isAskable, 2, false, 9), 498, 500, 4, 49), ((9, 162), (yX1_inForce, 2, false, 1), 502, 503, 504, 56), ((11, 73), (yX9_value, 4, false, 9), 506, 507, 508, 49), ((9, 165), (yX9_valueOf, 4, false, 9), 510, 512, 5, 49), ((9, 276), (yX7_daysOf, 4, false, 7), 517, 518, 519, 51), ((7, 44), (yX7_pick, 3, false, 7), 521, 523, 6, 51), ((7, 40), (yX7_isKnown, 2, false, 7), 525, 527, 7, 51), ((7, 48), (yX7_nextChange, 2, false, 7), 529, 531, 8, 51), ((7, 52), (yX7_isOfKind, 2, false, 7), 534, 536, 9, 51), ((9, 282), (yX2_sum, 3, false, 2), 538, 539, 540, 52), ((9, 289), (yX4_latestMark, 2, false, 4), 542, 543, 544, 58), ((4, 51), (yX4_isPassed, 1, false, 4), 546, 547, 548, 58), ((4, 28), (yX4_isDone, 1, false, 4), 550, 551, 552, 58), ((4, 32), (yX4_refusedPart, 1, false, 4), 554, 555, 556, 58), ((4, 47), (yX4_sumOfPart, 2, false, 4), 558, 560, 10, 58), ((4, 54), (yX4_markOf, 1, false, 4), 562, 563, 564, 58), ((9, 292), (yX3_isChildOfMaster, 2, false, 3), 566, 567, 568, 50), ((3, 48), (yX3_wasMasterBy, 2, false, 3), 570, 572, 11, 50), ((11, 77), (yX9_may, 3, false, 9), 574, 575, 576, 49), ((9, 169), (yX9_mayCome, 3, false, 9), 578, 580, 12, 49), ((9, 298), (yX6_holds, 2, false, 6), 582, 583, 584, 55), ((6, 42), (yX8_begin, 0, false, 8), 586, 587, 588, 57), ((6, 47), (yX8_take, 1, false, 8), 590, 591, 592, 57), ((8, 36), (yX5_isDigit, 1, true, 5), 594, 464, 54, 54), ((8, 42), (yX8_settleNumber, 0, false, 8), 595, 597, 13, 57), ((8, 64), (yX8_compares, 0, false, 8), 599, 601, 14, 57), ((8, 60), (yX8_countUnit, 1, false, 8), 603, 605, 15, 57), ((8, 45), (yX5_isWord, 1, true, 5), 607, 461, 54, 54), ((8, 48), (yX8_valueOfWord, 1, false, 8), 608, 610, 16, 57), ((8, 52), (yX8_takeJoint, 1, false, 8), 612, 614, 17, 57), ((8, 56), (yX8_holdsHere, 0, false, 8), 616, 618, 18, 57), ((6, 51), (yX8_result, 0, false, 8), 620, 621, 622, 57), ((9, 302), (yX7_firstServedDay, 3, false, 7), 624, 625, 626, 51), ((11, 84), (yX9_piece, 2, false, 9), 628, 629, 630, 49), ((9, 173), (yX4_isFull, 0, false, 4), 632, 633, 634, 58), ((9, 174), (yX4_hasOpen, 1, false, 4), 636, 637, 638, 58), ((9, 177), (yX9_seatFitJudges, 1, false, 9), 640, 642, 19, 49), ((9, 229), (yX3_areKin, 2, false, 3), 644, 645, 646, 50), ((3, 41), (yX3_isParentOf, 2, false, 3), 648, 650, 20, 50), ((3, 45), (yX3_shareParent, 2, false, 3), 652, 654, 21, 50), ((9, 305), (yX7_hasServed, 3, false, 7), 656, 657, 658, 51), ((9, 181), (yX4_add, 4, false, 4), 660, 661, 662, 58), ((4, 36), (yX4_drawJudges, 4, false, 4), 664, 666, 22, 58), ((11, 89), (yX9_judge, 2, false, 9), 670, 671, 672, 49), ((9, 184), (yX4_has, 1, false, 4), 674, 675, 676, 58), ((9, 185), (yX4_isJudge, 1, true, 4), 678, 679, 58, 58), ((9, 188), (yX4_judgeOf, 2, false, 4), 681, 682, 683, 58), ((11, 93), (yX9_mark, 4, false, 9), 685, 686, 687, 49), ((9, 191), (yX4_isPart, 1, true, 4), 689, 690, 58, 58), ((9, 194), (yX4_isDone, 1, false, 4), 692, 551, 552, 58), ((9, 197), (yX4_setPoints, 5, false, 4), 693, 694, 695, 58), ((4, 44), (yX4_allGiven, 1, false, 4), 697, 699, 23, 58), ((9, 201), (yX4_isPassed, 1, false, 4), 701, 547, 548, 58), ((11, 98), (yX9_told, 2, false, 9), 702, 703, 704, 49), ((9, 207), (yX4_markOf, 1, false, 4), 706, 563, 564, 58), ((9, 210), (yX4_refusedPart, 1, false, 4), 707, 555, 556, 58), ((11, 102), (yX9_hire, 2, false, 9), 708, 709, 710, 49), ((11, 106), (yX9_leave, 1, false, 9), 712, 713, 714, 49), ((11, 110), (yX9_number, 2, false, 9), 716, 717, 718, 49), ((9, 219), (yX1_add, 2, false, 1), 720, 488, 489, 56), ((11, 114), (yX9_hands, 1, false, 9), 721, 722, 723, 49), ((9, 220), (yX3_handsOf, 1, false, 3), 725, 726, 727, 50), ((11, 118), (yX9_lawful, 1, false, 9), 729, 730, 731, 49), ((9, 223), (yX9_numberNow, 0, false, 9), 733, 735, 24, 49), ((11, 122), (yX9_kin, 2, false, 9), 737, 738, 739, 49), ((11, 135), (yX9_count, 1, false, 9), 741, 742, 743, 49), ((9, 262), (yX3_masters, 0, false, 3), 745, 746, 747, 50), ((3, 51), (yX3_isMaster, 1, false, 3), 749, 361, 362, 50), ((9, 268), (yX3_allHands, 0, false, 3), 750, 751, 752, 50), ((3, 54), (yX3_handsOf, 1, false, 3), 754, 726, 727, 50), ((11, 7), (yX9_look, 2, false, 9), 759, 760, 761, 49), ((11, 132), (yX10_thrown, 0, false, 10), 985, 986, 987, 59), ((11, 22), (yX10_person, 2, false, 10), 989, 990, 991, 59), ((10, 124), (yX10_isPerson, 1, false, 10), 993, 995, 26, 59), ((11, 27), (yX10_master, 1, false, 10), 997, 998, 999, 59), ((10, 128), (yX10_isAlive, 1, false, 10), 1001, 1003, 27, 59), ((10, 131), (yX10_isMaster, 1, false, 10), 1005, 1007, 28, 59), ((11, 32), (yX10_death, 2, false, 10), 1009, 1010, 1011, 59), ((11, 37), (yX10_days, 1, false, 10), 1013, 1014, 1015, 59), ((10, 137), (yX10_isIn, 3, true, 10), 1017, 1018, 59, 59), ((11, 125), (yX10_kin, 2, false, 10), 1020, 1021, 1022, 59), ((10, 145), (yX10_areKin, 2, false, 10), 1024, 1026, 29, 59), ((10, 141), (yX10_isParent, 2, false, 10), 1028, 1030, 30, 59), ((11, 42), (yX10_term, 4, false, 10), 1032, 1033, 1034, 59), ((11, 46), (yX10_back, 1, false, 10), 1036, 1037, 1038, 59), ((11, 51), (yX10_give, 3, false, 10), 1040, 1041, 1042, 59), ((11, 76), (yX10_value, 4, false, 10), 1044, 1045, 1046, 59), ((10, 167), (yX10_isAsked, 3, false, 10), 1048, 1050, 31, 59), ((10, 170), (yX10_values, 3, false, 10), 1052, 1054, 32, 59), ((10, 157), (yX10_mark, 3, false, 10), 1056, 1058, 33, 59), ((10, 154), (yX10_isKnown, 2, false, 10), 1060, 1062, 34, 59), ((10, 164), (yX10_wasMaster, 3, false, 10), 1064, 1066, 35, 59), ((11, 55), (yX10_feed, 1, false, 10), 1068, 1069, 1070, 59), ((11, 59), (yX10_end, 1, false, 10), 1072, 1073, 1074, 59), ((11, 64), (yX10_fault, 0, false, 10), 1076, 1077, 1078, 59), ((10, 208), (yX10_holds, 3, false, 10), 1080, 1082, 36, 59), ((10, 195), (yX10_tests, 0, false, 10), 1084, 1086, 37, 59), ((10, 202), (yX10_part, 0, false, 10), 1088, 1090, 38, 59), ((10, 199), (yX10_unit, 0, false, 10), 1092, 1094, 39, 59), ((10, 185), (yX10_look, 0, false, 10), 1096, 1098, 40, 59), ((10, 192), (yX10_wrong, 0, false, 10), 1100, 1102, 41, 59), ((11, 68), (yX10_statute, 1, false, 10), 1104, 1105, 1106, 59), ((11, 72), (yX10_force, 2, false, 10), 1108, 1109, 1110, 59), ((10, 215), (yX10_inForce, 2, false, 10), 1112, 1114, 42, 59), ((11, 81), (yX10_may, 3, false, 10), 1116, 1117, 1118, 59), ((10, 222), (yX10_mayCome, 3, false, 10), 1120, 1122, 43, 59), ((10, 219), (yX10_lets, 1, false, 10), 1124, 1126, 44, 59), ((11, 88), (yX10_piece, 2, false, 10), 1128, 1129, 1130, 59), ((10, 226), (yX10_mayJudge, 2, false, 10), 1132, 1134, 45, 59), ((11, 92), (yX10_judge, 2, false, 10), 1138, 1139, 1140, 59), ((10, 233), (yX10_isPiece, 1, false, 10), 1142, 1144, 46, 59), ((11, 97), (yX10_mark_, 4, false, 10), 1146, 1147, 1148, 59), ((11, 101), (yX10_told, 2, false, 10), 1150, 1151, 1152, 59), ((11, 105), (yX10_hire, 2, false, 10), 1154, 1155, 1156, 59), ((11, 109), (yX10_leave, 1, false, 10), 1158, 1159, 1160, 59), ((11, 113), (yX10_number, 2, false, 10), 1162, 1163, 1164, 59), ((11, 117), (yX10_hands, 1, false, 10), 1166, 1167, 1168, 59), ((10, 239), (yX10_handsOf, 1, false, 10), 1170, 1172, 47, 59), ((11, 121), (yX10_lawful, 1, false, 10), 1174, 1175, 1176, 59), ((11, 131), (yX10_look_, 2, false, 10), 1178, 1179, 1180, 59), ((11, 138), (yX10_count, 1, false, 10), 1182, 1183, 1184, 59)]
def j_mck (q : (Nat × Nat) × (MethodName × Nat × Bool × Nat) × Nat × Nat × Nat × Nat) : Bool :=
  decide (lw_tbl[q.2.2.1]? = some (.methodLink (j_cn q.1.1) q.1.2 q.2.1.1)) && (decide (lw_tbl[q.2.2.2.1]? = some (if q.2.1.2.2.1 then .static q.2.1.1 else .instanceMethod q.2.1.1)) && (decide (lw_tbl[q.2.2.2.2.1]? = some (if q.2.1.2.2.1 then .initialized q.2.1.1.cls else .selects q.2.1.1.cls q.2.1.1 q.2.1.1)) && (decide (lw_tbl[q.2.2.2.2.2]? = some (.initialized q.2.1.1.cls)) && (decide (q.2.1.1.cls ≠ "java/lang/invoke/MethodHandle") && (decide (q.2.1.1.cls ≠ "java/lang/invoke/VarHandle") && (decide (j_cn q.2.1.2.2.2 = q.2.1.1.cls) && decide ((parseMethodDescriptor q.2.1.1.desc).map (fun d => d.parameters.length) = some q.2.1.2.1)))))))
theorem j_mt_ok : j_mt.all j_mck = true := by decide +kernel
def j_ml (o i : Nat) : Option (MethodName × Nat × Bool × Nat) := (j_mt.find? (fun q => q.1 == (o, i))).map (fun q => q.2.1)
theorem j_ml_ok {o i n ci : Nat} {y : MethodName} {b : Bool} (h : j_ml o i = some (y, n, b, ci)) : Cond.methodLink (j_cn o) i y ∈ lw_tbl ∧ (if b then Cond.static y else .instanceMethod y) ∈ lw_tbl ∧ (if b then Cond.initialized y.cls else .selects y.cls y y) ∈ lw_tbl ∧ Cond.initialized y.cls ∈ lw_tbl ∧ y.cls ≠ "java/lang/invoke/MethodHandle" ∧ y.cls ≠ "java/lang/invoke/VarHandle" ∧ j_cn ci = y.cls ∧ (parseMethodDescriptor y.desc).map (fun d => d.parameters.length) = some n := by
  unfold j_ml at h
  obtain ⟨q, hq, hk⟩ := Option.map_eq_some_iff.mp h
  have h1 := List.all_eq_true.mp j_mt_ok q (List.mem_of_find?_eq_some hq)
  have h2 := List.find?_some hq
  simp only [beq_iff_eq] at h2
  obtain ⟨⟨a, c⟩, ⟨x, x2, x3, x4⟩, z1, z2, z3, z4⟩ := q
  cases h2
  cases hk
  unfold j_mck at h1
  simp only [Bool.and_eq_true, decide_eq_true_eq] at h1
  exact ⟨List.mem_of_getElem? h1.1, List.mem_of_getElem? h1.2.1, List.mem_of_getElem? h1.2.2.1, List.mem_of_getElem? h1.2.2.2.1, h1.2.2.2.2⟩
theorem j_f0 : j_fl 0 9 = some (0, 0, true) ∧ j_fl 0 15 = some (0, 1, false) := ⟨by decide +kernel, by decide +kernel⟩
theorem j_m0 : j_ml 0 19 = some (yX0_byteOf, 2, true, 0) := by decide +kernel
theorem j_f1 : j_fl 1 9 = some (1, 0, true) ∧ j_fl 1 15 = some (1, 1, true) ∧ j_fl 1 18 = some (1, 2, false) := ⟨by decide +kernel, by decide +kernel, by decide +kernel⟩
theorem j_f2 : j_fl 2 9 = some (2, 0, true) ∧ j_fl 2 15 = some (2, 1, true) ∧ j_fl 2 18 = some (2, 2, true) ∧ j_fl 2 21 = some (2, 3, true) ∧ j_fl 2 24 = some (2, 4, false) := ⟨by decide +kernel, by decide +kernel, by decide +kernel, by decide +kernel, by decide +kernel⟩
theorem j_f3 : j_fl 3 9 = some (3, 0, true) ∧ j_fl 3 15 = some (3, 1, true) ∧ j_fl 3 18 = some (3, 2, true) ∧ j_fl 3 21 = some (3, 3, true) ∧ j_fl 3 24 = some (3, 4, true) ∧ j_fl 3 27 = some (3, 5, true) ∧ j_fl 3 30 = some (3, 6, false) := ⟨by decide +kernel, by decide +kernel, by decide +kernel, by decide +kernel, by decide +kernel, by decide +kernel, by decide +kernel⟩
theorem j_m3 : j_ml 3 34 = some (yX3_has, 1, false, 3) ∧ j_ml 3 38 = some (yX3_isAlive, 1, false, 3) ∧ j_ml 3 48 = some (yX3_wasMasterBy, 2, false, 3) ∧ j_ml 3 41 = some (yX3_isParentOf, 2, false, 3) ∧ j_ml 3 45 = some (yX3_shareParent, 2, false, 3) ∧ j_ml 3 51 = some (yX3_isMaster, 1, false, 3) ∧ j_ml 3 54 = some (yX3_handsOf, 1, false, 3) := ⟨by decide +kernel, by decide +kernel, by decide +kernel, by decide +kernel, by decide +kernel, by decide +kernel, by decide +kernel⟩
theorem j_f4 : j_fl 4 11 = some (4, 0, true) ∧ j_fl 4 15 = some (4, 1, true) ∧ j_fl 4 18 = some (4, 2, true) ∧ j_fl 4 21 = some (4, 3, true) ∧ j_fl 4 24 = some (4, 4, false) := ⟨by decide +kernel, by decide +kernel, by decide +kernel, by decide +kernel, by decide +kernel⟩
theorem j_m4 : j_ml 4 51 = some (yX4_isPassed, 1, false, 4) ∧ j_ml 4 28 = some (yX4_isDone, 1, false, 4) ∧ j_ml 4 32 = some (yX4_refusedPart, 1, false, 4) ∧ j_ml 4 47 = some (yX4_sumOfPart, 2, false, 4) ∧ j_ml 4 54 = some (yX4_markOf, 1, false, 4) ∧ j_ml 4 36 = some (yX4_drawJudges, 4, false, 4) ∧ j_ml 4 44 = some (yX4_allGiven, 1, false, 4) := ⟨by decide +kernel, by decide +kernel, by decide +kernel, by decide +kernel, by decide +kernel, by decide +kernel, by decide +kernel⟩
theorem j_f5 : j_fl 5 11 = some (5, 0, false) ∧ j_fl 5 15 = some (5, 1, false) ∧ j_fl 5 18 = some (5, 2, false) := ⟨by decide +kernel, by decide +kernel, by decide +kernel⟩
theorem j_m5 : j_ml 5 21 = some (yX5_goesOnWith, 1, false, 5) ∧ j_ml 5 29 = some (yX5_beginsUnit, 1, false, 5) ∧ j_ml 5 38 = some (yX5_isWord, 1, true, 5) ∧ j_ml 5 32 = some (yX5_isDigit, 1, true, 5) ∧ j_ml 5 35 = some (yX5_followsUnit, 1, false, 5) ∧ j_ml 5 25 = some (yX5_isWhole, 0, false, 5) := ⟨by decide +kernel, by decide +kernel, by decide +kernel, by decide +kernel, by decide +kernel, by decide +kernel⟩
theorem j_f6 : j_fl 6 30 = some (0, 0, true) ∧ j_fl 6 33 = some (0, 1, false) ∧ j_fl 6 12 = some (6, 0, true) ∧ j_fl 6 18 = some (6, 1, true) ∧ j_fl 6 22 = some (6, 2, true) := ⟨by decide +kernel, by decide +kernel, by decide +kernel, by decide +kernel, by decide +kernel⟩
theorem j_m6 : j_ml 6 26 = some (yX1_add, 2, false, 1) ∧ j_ml 6 42 = some (yX8_begin, 0, false, 8) ∧ j_ml 6 47 = some (yX8_take, 1, false, 8) ∧ j_ml 6 51 = some (yX8_result, 0, false, 8) := ⟨by decide +kernel, by decide +kernel, by decide +kernel, by decide +kernel⟩
theorem j_f7 : j_fl 7 9 = some (7, 0, true) ∧ j_fl 7 15 = some (7, 1, true) ∧ j_fl 7 18 = some (7, 2, true) ∧ j_fl 7 21 = some (7, 3, true) ∧ j_fl 7 24 = some (7, 4, true) ∧ j_fl 7 27 = some (7, 5, true) ∧ j_fl 7 30 = some (7, 6, false) ∧ j_fl 7 34 = some (7, 7, true) ∧ j_fl 7 37 = some (7, 8, false) := ⟨by decide +kernel, by decide +kernel, by decide +kernel, by decide +kernel, by decide +kernel, by decide +kernel, by decide +kernel, by decide +kernel, by decide +kernel⟩
theorem j_m7 : j_ml 7 44 = some (yX7_pick, 3, false, 7) ∧ j_ml 7 40 = some (yX7_isKnown, 2, false, 7) ∧ j_ml 7 48 = some (yX7_nextChange, 2, false, 7) ∧ j_ml 7 52 = some (yX7_isOfKind, 2, false, 7) := ⟨by decide +kernel, by decide +kernel, by decide +kernel, by decide +kernel⟩
theorem j_f8 : j_fl 8 9 = some (8, 0, true) ∧ j_fl 8 15 = some (8, 1, false) ∧ j_fl 8 19 = some (8, 2, false) ∧ j_fl 8 22 = some (8, 3, false) ∧ j_fl 8 25 = some (8, 4, false) ∧ j_fl 8 29 = some (8, 5, false) ∧ j_fl 8 32 = some (8, 6, false) := ⟨by decide +kernel, by decide +kernel, by decide +kernel, by decide +kernel, by decide +kernel, by decide +kernel, by decide +kernel⟩
theorem j_m8 : j_ml 8 36 = some (yX5_isDigit, 1, true, 5) ∧ j_ml 8 42 = some (yX8_settleNumber, 0, false, 8) ∧ j_ml 8 64 = some (yX8_compares, 0, false, 8) ∧ j_ml 8 60 = some (yX8_countUnit, 1, false, 8) ∧ j_ml 8 45 = some (yX5_isWord, 1, true, 5) ∧ j_ml 8 48 = some (yX8_valueOfWord, 1, false, 8) ∧ j_ml 8 52 = some (yX8_takeJoint, 1, false, 8) ∧ j_ml 8 56 = some (yX8_holdsHere, 0, false, 8) := ⟨by decide +kernel, by decide +kernel, by decide +kernel, by decide +kernel, by decide +kernel, by decide +kernel, by decide +kernel, by decide +kernel⟩
theorem j_f9 : j_fl 9 216 = some (3, 4, true) ∧ j_fl 9 226 = some (3, 5, true) ∧ j_fl 9 259 = some (3, 6, false) ∧ j_fl 9 239 = some (7, 0, true) ∧ j_fl 9 242 = some (7, 1, true) ∧ j_fl 9 245 = some (7, 2, true) ∧ j_fl 9 248 = some (7, 3, true) ∧ j_fl 9 251 = some (7, 4, true) ∧ j_fl 9 254 = some (7, 5, true) ∧ j_fl 9 265 = some (7, 6, false) ∧ j_fl 9 279 = some (2, 1, true) ∧ j_fl 9 286 = some (2, 2, true) ∧ j_fl 9 139 = some (0, 0, true) ∧ j_fl 9 136 = some (0, 1, false) ∧ j_fl 9 266 = some (1, 2, false) ∧ j_fl 9 147 = some (6, 0, true) ∧ j_fl 9 295 = some (8, 0, true) ∧ j_fl 9 204 = some (4, 0, true) ∧ j_fl 9 213 = some (4, 1, true) ∧ j_fl 9 267 = some (4, 4, false) ∧ j_fl 9 10 = some (9, 0, true) ∧ j_fl 9 19 = some (9, 1, true) ∧ j_fl 9 26 = some (9, 2, true) ∧ j_fl 9 33 = some (9, 3, true) ∧ j_fl 9 40 = some (9, 4, true) ∧ j_fl 9 47 = some (9, 5, true) ∧ j_fl 9 54 = some (9, 6, true) ∧ j_fl 9 61 = some (9, 7, true) ∧ j_fl 9 65 = some (9, 8, true) ∧ j_fl 9 72 = some (9, 9, true) ∧ j_fl 9 76 = some (9, 10, true) ∧ j_fl 9 79 = some (9, 11, false) := ⟨by decide +kernel, by decide +kernel, by decide +kernel, by decide +kernel, by decide +kernel, by decide +kernel, by decide +kernel, by decide +kernel, by decide +kernel, by decide +kernel, by decide +kernel, by decide +kernel, by decide +kernel, by decide +kernel, by decide +kernel, by decide +kernel, by decide +kernel, by decide +kernel, by decide +kernel, by decide +kernel, by decide +kernel, by decide +kernel, by decide +kernel, by decide +kernel, by decide +kernel, by decide +kernel, by decide +kernel, by decide +kernel, by decide +kernel, by decide +kernel, by decide +kernel, by decide +kernel⟩
theorem j_m9 : j_ml 9 83 = some (yX3_isFull, 0, false, 3) ∧ j_ml 9 87 = some (yX3_isParent, 1, false, 3) ∧ j_ml 9 91 = some (yX3_add, 2, false, 3) ∧ j_ml 9 95 = some (yX3_isAlive, 1, false, 3) ∧ j_ml 9 98 = some (yX3_isMaster, 1, false, 3) ∧ j_ml 9 101 = some (yX3_raise, 2, false, 3) ∧ j_ml 9 105 = some (yX3_bury, 3, false, 3) ∧ j_ml 9 109 = some (yX9_isDay, 1, true, 9) ∧ j_ml 9 112 = some (yX3_has, 1, false, 3) ∧ j_ml 9 115 = some (yX7_isFull, 0, false, 7) ∧ j_ml 9 116 = some (yX7_add, 5, false, 7) ∧ j_ml 9 119 = some (yX7_has, 1, false, 7) ∧ j_ml 9 120 = some (yX7_isTakenBack, 1, false, 7) ∧ j_ml 9 123 = some (yX7_takeBack, 2, false, 7) ∧ j_ml 9 126 = some (yX2_isFull, 0, false, 2) ∧ j_ml 9 127 = some (yX2_add, 4, false, 2) ∧ j_ml 9 130 = some (yX0_hasRoomFor, 1, false, 0) ∧ j_ml 9 133 = some (yX0_add, 1, false, 0) ∧ j_ml 9 143 = some (yX5_firstFault, 2, false, 5) ∧ j_ml 9 150 = some (yX1_isFull, 0, false, 1) ∧ j_ml 9 151 = some (yX9_fault, 0, false, 9) ∧ j_ml 9 155 = some (yX6_add, 3, false, 6) ∧ j_ml 9 158 = some (yX9_isAskable, 2, false, 9) ∧ j_ml 9 162 = some (yX1_inForce, 2, false, 1) ∧ j_ml 9 165 = some (yX9_valueOf, 4, false, 9) ∧ j_ml 9 276 = some (yX7_daysOf, 4, false, 7) ∧ j_ml 9 282 = some (yX2_sum, 3, false, 2) ∧ j_ml 9 289 = some (yX4_latestMark, 2, false, 4) ∧ j_ml 9 292 = some (yX3_isChildOfMaster, 2, false, 3) ∧ j_ml 9 169 = some (yX9_mayCome, 3, false, 9) ∧ j_ml 9 298 = some (yX6_holds, 2, false, 6) ∧ j_ml 9 302 = some (yX7_firstServedDay, 3, false, 7) ∧ j_ml 9 173 = some (yX4_isFull, 0, false, 4) ∧ j_ml 9 174 = some (yX4_hasOpen, 1, false, 4) ∧ j_ml 9 177 = some (yX9_seatFitJudges, 1, false, 9) ∧ j_ml 9 229 = some (yX3_areKin, 2, false, 3) ∧ j_ml 9 305 = some (yX7_hasServed, 3, false, 7) ∧ j_ml 9 181 = some (yX4_add, 4, false, 4) ∧ j_ml 9 184 = some (yX4_has, 1, false, 4) ∧ j_ml 9 185 = some (yX4_isJudge, 1, true, 4) ∧ j_ml 9 188 = some (yX4_judgeOf, 2, false, 4) ∧ j_ml 9 191 = some (yX4_isPart, 1, true, 4) ∧ j_ml 9 194 = some (yX4_isDone, 1, false, 4) ∧ j_ml 9 197 = some (yX4_setPoints, 5, false, 4) ∧ j_ml 9 201 = some (yX4_isPassed, 1, false, 4) ∧ j_ml 9 207 = some (yX4_markOf, 1, false, 4) ∧ j_ml 9 210 = some (yX4_refusedPart, 1, false, 4) ∧ j_ml 9 219 = some (yX1_add, 2, false, 1) ∧ j_ml 9 220 = some (yX3_handsOf, 1, false, 3) ∧ j_ml 9 223 = some (yX9_numberNow, 0, false, 9) ∧ j_ml 9 262 = some (yX3_masters, 0, false, 3) ∧ j_ml 9 268 = some (yX3_allHands, 0, false, 3) := ⟨by decide +kernel, by decide +kernel, by decide +kernel, by decide +kernel, by decide +kernel, by decide +kernel, by decide +kernel, by decide +kernel, by decide +kernel, by decide +kernel, by decide +kernel, by decide +kernel, by decide +kernel, by decide +kernel, by decide +kernel, by decide +kernel, by decide +kernel, by decide +kernel, by decide +kernel, by decide +kernel, by decide +kernel, by decide +kernel, by decide +kernel, by decide +kernel, by decide +kernel, by decide +kernel, by decide +kernel, by decide +kernel, by decide +kernel, by decide +kernel, by decide +kernel, by decide +kernel, by decide +kernel, by decide +kernel, by decide +kernel, by decide +kernel, by decide +kernel, by decide +kernel, by decide +kernel, by decide +kernel, by decide +kernel, by decide +kernel, by decide +kernel, by decide +kernel, by decide +kernel, by decide +kernel, by decide +kernel, by decide +kernel, by decide +kernel, by decide +kernel, by decide +kernel, by decide +kernel⟩
theorem j_f10 : j_fl 10 117 = some (10, 0, false) ∧ j_fl 10 134 = some (10, 1, false) ∧ j_fl 10 121 = some (10, 2, false) ∧ j_fl 10 148 = some (10, 3, false) ∧ j_fl 10 151 = some (10, 4, false) ∧ j_fl 10 212 = some (10, 5, false) ∧ j_fl 10 161 = some (10, 6, false) ∧ j_fl 10 236 = some (10, 7, false) ∧ j_fl 10 205 = some (10, 8, false) ∧ j_fl 10 9 = some (10, 9, true) ∧ j_fl 10 13 = some (10, 10, true) ∧ j_fl 10 16 = some (10, 11, true) ∧ j_fl 10 19 = some (10, 12, true) ∧ j_fl 10 22 = some (10, 13, true) ∧ j_fl 10 25 = some (10, 14, true) ∧ j_fl 10 28 = some (10, 15, true) ∧ j_fl 10 31 = some (10, 16, true) ∧ j_fl 10 34 = some (10, 17, true) ∧ j_fl 10 37 = some (10, 18, true) ∧ j_fl 10 40 = some (10, 19, true) ∧ j_fl 10 43 = some (10, 20, true) ∧ j_fl 10 46 = some (10, 21, true) ∧ j_fl 10 49 = some (10, 22, true) ∧ j_fl 10 52 = some (10, 23, true) ∧ j_fl 10 55 = some (10, 24, true) ∧ j_fl 10 58 = some (10, 25, true) ∧ j_fl 10 62 = some (10, 26, true) ∧ j_fl 10 65 = some (10, 27, true) ∧ j_fl 10 68 = some (10, 28, true) ∧ j_fl 10 71 = some (10, 29, true) ∧ j_fl 10 74 = some (10, 30, true) ∧ j_fl 10 77 = some (10, 31, true) ∧ j_fl 10 80 = some (10, 32, true) ∧ j_fl 10 83 = some (10, 33, true) ∧ j_fl 10 86 = some (10, 34, true) ∧ j_fl 10 89 = some (10, 35, true) ∧ j_fl 10 92 = some (10, 36, true) ∧ j_fl 10 95 = some (10, 37, true) ∧ j_fl 10 98 = some (10, 38, true) ∧ j_fl 10 101 = some (10, 39, true) ∧ j_fl 10 104 = some (10, 40, true) ∧ j_fl 10 107 = some (10, 41, true) ∧ j_fl 10 111 = some (10, 42, true) ∧ j_fl 10 114 = some (10, 43, false) ∧ j_fl 10 179 = some (10, 44, false) ∧ j_fl 10 176 = some (10, 45, false) ∧ j_fl 10 173 = some (10, 46, false) ∧ j_fl 10 182 = some (10, 47, false) ∧ j_fl 10 189 = some (10, 48, false) := ⟨by decide +kernel, by decide +kernel, by decide +kernel, by decide +kernel, by decide +kernel, by decide +kernel, by decide +kernel, by decide +kernel, by decide +kernel, by decide +kernel, by decide +kernel, by decide +kernel, by decide +kernel, by decide +kernel, by decide +kernel, by decide +kernel, by decide +kernel, by decide +kernel, by decide +kernel, by decide +kernel, by decide +kernel, by decide +kernel, by decide +kernel, by decide +kernel, by decide +kernel, by decide +kernel, by decide +kernel, by decide +kernel, by decide +kernel, by decide +kernel, by decide +kernel, by decide +kernel, by decide +kernel, by decide +kernel, by decide +kernel, by decide +kernel, by decide +kernel, by decide +kernel, by decide +kernel, by decide +kernel, by decide +kernel, by decide +kernel, by decide +kernel, by decide +kernel, by decide +kernel, by decide +kernel, by decide +kernel, by decide +kernel, by decide +kernel⟩
theorem j_m10 : j_ml 10 124 = some (yX10_isPerson, 1, false, 10) ∧ j_ml 10 128 = some (yX10_isAlive, 1, false, 10) ∧ j_ml 10 131 = some (yX10_isMaster, 1, false, 10) ∧ j_ml 10 137 = some (yX10_isIn, 3, true, 10) ∧ j_ml 10 145 = some (yX10_areKin, 2, false, 10) ∧ j_ml 10 141 = some (yX10_isParent, 2, false, 10) ∧ j_ml 10 167 = some (yX10_isAsked, 3, false, 10) ∧ j_ml 10 170 = some (yX10_values, 3, false, 10) ∧ j_ml 10 157 = some (yX10_mark, 3, false, 10) ∧ j_ml 10 154 = some (yX10_isKnown, 2, false, 10) ∧ j_ml 10 164 = some (yX10_wasMaster, 3, false, 10) ∧ j_ml 10 208 = some (yX10_holds, 3, false, 10) ∧ j_ml 10 195 = some (yX10_tests, 0, false, 10) ∧ j_ml 10 202 = some (yX10_part, 0, false, 10) ∧ j_ml 10 199 = some (yX10_unit, 0, false, 10) ∧ j_ml 10 185 = some (yX10_look, 0, false, 10) ∧ j_ml 10 192 = some (yX10_wrong, 0, false, 10) ∧ j_ml 10 215 = some (yX10_inForce, 2, false, 10) ∧ j_ml 10 222 = some (yX10_mayCome, 3, false, 10) ∧ j_ml 10 219 = some (yX10_lets, 1, false, 10) ∧ j_ml 10 226 = some (yX10_mayJudge, 2, false, 10) ∧ j_ml 10 233 = some (yX10_isPiece, 1, false, 10) ∧ j_ml 10 239 = some (yX10_handsOf, 1, false, 10) := ⟨by decide +kernel, by decide +kernel, by decide +kernel, by decide +kernel, by decide +kernel, by decide +kernel, by decide +kernel, by decide +kernel, by decide +kernel, by decide +kernel, by decide +kernel, by decide +kernel, by decide +kernel, by decide +kernel, by decide +kernel, by decide +kernel, by decide +kernel, by decide +kernel, by decide +kernel, by decide +kernel, by decide +kernel, by decide +kernel, by decide +kernel⟩
theorem j_m11 : j_ml 11 19 = some (yX9_person, 2, false, 9) ∧ j_ml 11 23 = some (yX9_master, 1, false, 9) ∧ j_ml 11 28 = some (yX9_death, 2, false, 9) ∧ j_ml 11 33 = some (yX9_days, 1, false, 9) ∧ j_ml 11 38 = some (yX9_term, 4, false, 9) ∧ j_ml 11 43 = some (yX9_back, 1, false, 9) ∧ j_ml 11 47 = some (yX9_give, 3, false, 9) ∧ j_ml 11 52 = some (yX9_feed, 1, false, 9) ∧ j_ml 11 56 = some (yX9_end, 1, false, 9) ∧ j_ml 11 60 = some (yX9_fault, 0, false, 9) ∧ j_ml 11 65 = some (yX9_statute, 1, false, 9) ∧ j_ml 11 69 = some (yX9_force, 2, false, 9) ∧ j_ml 11 73 = some (yX9_value, 4, false, 9) ∧ j_ml 11 77 = some (yX9_may, 3, false, 9) ∧ j_ml 11 84 = some (yX9_piece, 2, false, 9) ∧ j_ml 11 89 = some (yX9_judge, 2, false, 9) ∧ j_ml 11 93 = some (yX9_mark, 4, false, 9) ∧ j_ml 11 98 = some (yX9_told, 2, false, 9) ∧ j_ml 11 102 = some (yX9_hire, 2, false, 9) ∧ j_ml 11 106 = some (yX9_leave, 1, false, 9) ∧ j_ml 11 110 = some (yX9_number, 2, false, 9) ∧ j_ml 11 114 = some (yX9_hands, 1, false, 9) ∧ j_ml 11 118 = some (yX9_lawful, 1, false, 9) ∧ j_ml 11 122 = some (yX9_kin, 2, false, 9) ∧ j_ml 11 135 = some (yX9_count, 1, false, 9) ∧ j_ml 11 7 = some (yX9_look, 2, false, 9) ∧ j_ml 11 132 = some (yX10_thrown, 0, false, 10) ∧ j_ml 11 22 = some (yX10_person, 2, false, 10) ∧ j_ml 11 27 = some (yX10_master, 1, false, 10) ∧ j_ml 11 32 = some (yX10_death, 2, false, 10) ∧ j_ml 11 37 = some (yX10_days, 1, false, 10) ∧ j_ml 11 125 = some (yX10_kin, 2, false, 10) ∧ j_ml 11 42 = some (yX10_term, 4, false, 10) ∧ j_ml 11 46 = some (yX10_back, 1, false, 10) ∧ j_ml 11 51 = some (yX10_give, 3, false, 10) ∧ j_ml 11 76 = some (yX10_value, 4, false, 10) ∧ j_ml 11 55 = some (yX10_feed, 1, false, 10) ∧ j_ml 11 59 = some (yX10_end, 1, false, 10) ∧ j_ml 11 64 = some (yX10_fault, 0, false, 10) ∧ j_ml 11 68 = some (yX10_statute, 1, false, 10) ∧ j_ml 11 72 = some (yX10_force, 2, false, 10) ∧ j_ml 11 81 = some (yX10_may, 3, false, 10) ∧ j_ml 11 88 = some (yX10_piece, 2, false, 10) ∧ j_ml 11 92 = some (yX10_judge, 2, false, 10) ∧ j_ml 11 97 = some (yX10_mark_, 4, false, 10) ∧ j_ml 11 101 = some (yX10_told, 2, false, 10) ∧ j_ml 11 105 = some (yX10_hire, 2, false, 10) ∧ j_ml 11 109 = some (yX10_leave, 1, false, 10) ∧ j_ml 11 113 = some (yX10_number, 2, false, 10) ∧ j_ml 11 117 = some (yX10_hands, 1, false, 10) ∧ j_ml 11 121 = some (yX10_lawful, 1, false, 10) ∧ j_ml 11 131 = some (yX10_look_, 2, false, 10) ∧ j_ml 11 138 = some (yX10_count, 1, false, 10) := ⟨by decide +kernel, by decide +kernel, by decide +kernel, by decide +kernel, by decide +kernel, by decide +kernel, by decide +kernel, by decide +kernel, by decide +kernel, by decide +kernel, by decide +kernel, by decide +kernel, by decide +kernel, by decide +kernel, by decide +kernel, by decide +kernel, by decide +kernel, by decide +kernel, by decide +kernel, by decide +kernel, by decide +kernel, by decide +kernel, by decide +kernel, by decide +kernel, by decide +kernel, by decide +kernel, by decide +kernel, by decide +kernel, by decide +kernel, by decide +kernel, by decide +kernel, by decide +kernel, by decide +kernel, by decide +kernel, by decide +kernel, by decide +kernel, by decide +kernel, by decide +kernel, by decide +kernel, by decide +kernel, by decide +kernel, by decide +kernel, by decide +kernel, by decide +kernel, by decide +kernel, by decide +kernel, by decide +kernel, by decide +kernel, by decide +kernel, by decide +kernel, by decide +kernel, by decide +kernel, by decide +kernel⟩
def j_ct : List ((Nat × Nat) × (Nat × Nat) × Nat × Nat × Nat) := [((11, 8), (9, 12), 66, 67, 49), ((9, 7), (3, 7), 74, 75, 50), ((9, 16), (7, 9), 106, 107, 51), ((9, 23), (2, 5), 147, 148, 52), ((9, 30), (0, 2), 171, 172, 53), ((9, 37), (5, 3), 189, 190, 54), ((9, 44), (6, 3), 205, 206, 55), ((6, 9), (1, 3), 211, 212, 56), ((9, 51), (8, 7), 239, 240, 57), ((9, 58), (1, 3), 268, 212, 56), ((9, 69), (4, 5), 270, 271, 58), ((11, 16), (10, 49), 830, 831, 59)]
def j_cck (q : (Nat × Nat) × (Nat × Nat) × Nat × Nat × Nat) : Bool := match j_cls[q.2.1.1]? with
  | some (C, _, N) => decide (N = q.2.1.2) && (decide (lw_tbl[q.2.2.1]? = some (.classLink (j_cn q.1.1) q.1.2 C)) && (decide (lw_tbl[q.2.2.2.1]? = some (.instantiable C N)) && decide (lw_tbl[q.2.2.2.2]? = some (.initialized C))))
  | none => false
theorem j_ct_ok : j_ct.all j_cck = true := by decide +kernel
def j_cl (o i : Nat) : Option (Nat × Nat) := (j_ct.find? (fun q => q.1 == (o, i))).map (fun q => q.2.1)
theorem j_cl_ok {o i ci N : Nat} (h : j_cl o i = some (ci, N)) : ∃ (C : String) (T : u_T), j_cls[ci]? = some (C, T, N) ∧ Cond.classLink (j_cn o) i C ∈ lw_tbl ∧ Cond.instantiable C N ∈ lw_tbl ∧ Cond.initialized C ∈ lw_tbl := by
  unfold j_cl at h
  obtain ⟨q, hq, hk⟩ := Option.map_eq_some_iff.mp h
  have h1 := List.all_eq_true.mp j_ct_ok q (List.mem_of_find?_eq_some hq)
  have h2 := List.find?_some hq
  simp only [beq_iff_eq] at h2
  obtain ⟨⟨a, b⟩, ⟨x, y⟩, z1, z2, z3⟩ := q
  cases h2
  cases hk
  unfold j_cck at h1
  dsimp only at h1
  split at h1
  next C T N e =>
    simp only [Bool.and_eq_true, decide_eq_true_eq] at h1
    obtain ⟨g0, g1, g2, g3⟩ := h1
    subst g0
    exact ⟨C, T, e, List.mem_of_getElem? g1, List.mem_of_getElem? g2, List.mem_of_getElem? g3⟩
  next => cases h1
def j_nt : List ((Nat × Nat) × (MethodName × Bool) × Nat × Nat × Nat) := [((11, 15), (yX9_init, false), 68, 69, 49), ((9, 9), (yX3_init, true), 76, 77, 50), ((9, 18), (yX7_init, true), 108, 109, 51), ((9, 25), (yX2_init, true), 149, 150, 52), ((9, 32), (yX0_init, true), 173, 174, 53), ((9, 39), (yX5_init, true), 191, 192, 54), ((9, 46), (yX6_init, true), 207, 208, 55), ((6, 11), (yX1_init, true), 213, 214, 56), ((9, 53), (yX8_init, true), 241, 242, 57), ((9, 60), (yX1_init, true), 269, 214, 56), ((9, 71), (yX4_init, true), 272, 273, 58), ((11, 18), (yX10_init, false), 832, 833, 59)]
def j_nck (q : (Nat × Nat) × (MethodName × Bool) × Nat × Nat × Nat) : Bool :=
  decide (lw_tbl[q.2.2.1]? = some (if q.2.1.2 then .methodLinkNest (j_cn q.1.1) q.1.2 q.2.1.1 "GuildHouse" else .methodLink (j_cn q.1.1) q.1.2 q.2.1.1)) && (decide (lw_tbl[q.2.2.2.1]? = some (.instanceMethod q.2.1.1)) && (decide (lw_tbl[q.2.2.2.2]? = some (.initialized q.2.1.1.cls)) && (decide (q.2.1.1.name = "<init>") && (decide (q.2.1.1.cls ≠ "java/lang/invoke/MethodHandle") && (decide (q.2.1.1.cls ≠ "java/lang/invoke/VarHandle") && decide ((parseMethodDescriptor q.2.1.1.desc).map (fun d => d.parameters.length) = some 0))))))
theorem j_nt_ok : j_nt.all j_nck = true := by decide +kernel
def j_nl (o i : Nat) : Option (MethodName × Bool) := (j_nt.find? (fun q => q.1 == (o, i))).map (fun q => q.2.1)
theorem j_nl_ok {o i : Nat} {y : MethodName} {b : Bool} (h : j_nl o i = some (y, b)) : (if b then Cond.methodLinkNest (j_cn o) i y "GuildHouse" else .methodLink (j_cn o) i y) ∈ lw_tbl ∧ Cond.instanceMethod y ∈ lw_tbl ∧ Cond.initialized y.cls ∈ lw_tbl ∧ y.name = "<init>" ∧ y.cls ≠ "java/lang/invoke/MethodHandle" ∧ y.cls ≠ "java/lang/invoke/VarHandle" ∧ (parseMethodDescriptor y.desc).map (fun d => d.parameters.length) = some 0 := by
  unfold j_nl at h
  obtain ⟨q, hq, hk⟩ := Option.map_eq_some_iff.mp h
  have h1 := List.all_eq_true.mp j_nt_ok q (List.mem_of_find?_eq_some hq)
  have h2 := List.find?_some hq
  simp only [beq_iff_eq] at h2
  obtain ⟨⟨a, c⟩, ⟨x, x2⟩, z1, z2, z3⟩ := q
  cases h2
  cases hk
  unfold j_nck at h1
  simp only [Bool.and_eq_true, decide_eq_true_eq] at h1
  exact ⟨List.mem_of_getElem? h1.1, List.mem_of_getElem? h1.2.1, List.mem_of_getElem? h1.2.2.1, h1.2.2.2⟩
def j_ot : List ((Nat × Nat) × Nat) := [((9, 1), 71), ((3, 3), 79), ((7, 3), 111), ((2, 3), 152), ((0, 3), 176), ((5, 3), 194), ((6, 3), 210), ((1, 3), 216), ((8, 3), 244), ((4, 5), 275), ((10, 1), 835)]
def j_oi (o i : Nat) : Bool := (j_ot.find? (fun q => q.1 == (o, i))).isSome
theorem j_ot_ok : j_ot.all (fun q => decide (lw_tbl[q.2]? = some (.methodLink (j_cn q.1.1) q.1.2 objectInit))) = true := by decide +kernel
theorem j_oi_ok {o i : Nat} (h : j_oi o i = true) : Cond.methodLink (j_cn o) i objectInit ∈ lw_tbl := by
  unfold j_oi at h
  obtain ⟨q, hq⟩ := Option.isSome_iff_exists.mp h
  have h1 := List.all_eq_true.mp j_ot_ok q (List.mem_of_find?_eq_some hq)
  have h2 := List.find?_some hq
  simp only [beq_iff_eq] at h2
  obtain ⟨⟨a, c⟩, z⟩ := q
  cases h2
  simp only [decide_eq_true_eq] at h1
  exact List.mem_of_getElem? h1
theorem j_obj1 : Cond.instanceMethod objectInit ∈ lw_tbl := List.mem_of_getElem? (i := 72) (by decide +kernel)
theorem j_obj2 : Cond.code objectInit ⟨#[0xb1]⟩ 1 none ∈ lw_tbl := List.mem_of_getElem? (i := 73) (by decide +kernel)
theorem j_min1 : Cond.methodLink (j_cn 9) 271 Lib.Math.min.name ∈ lw_tbl ∧ Cond.methodLink (j_cn 7) 55 Lib.Math.min.name ∈ lw_tbl ∧ Cond.static Lib.Math.min.name ∈ lw_tbl ∧ Cond.initialized "java/lang/Math" ∈ lw_tbl ∧ Cond.code Lib.Math.min.name Lib.Math.min.code 2 (some .int) ∈ lw_tbl := ⟨List.mem_of_getElem? (i := 514) (by decide +kernel), List.mem_of_getElem? (i := 533) (by decide +kernel), List.mem_of_getElem? (i := 515) (by decide +kernel), List.mem_of_getElem? (i := 61) (by decide +kernel), List.mem_of_getElem? (i := 516) (by decide +kernel)⟩
theorem j_acp1 : Cond.methodLink (j_cn 6) 36 arraycopyName ∈ lw_tbl ∧ Cond.native arraycopyName ∈ lw_tbl ∧ Cond.static arraycopyName ∈ lw_tbl ∧ Cond.initialized "java/lang/System" ∈ lw_tbl := ⟨List.mem_of_getElem? (i := 491) (by decide +kernel), List.mem_of_getElem? (i := 493) (by decide +kernel), List.mem_of_getElem? (i := 492) (by decide +kernel), List.mem_of_getElem? (i := 60) (by decide +kernel)⟩
def j_lt : List ((Nat × Nat) × Int64 × Nat) := [((4, 40), 6364136223846793005, 668), ((4, 42), 1442695040888963407, 669), ((10, 229), 6364136223846793005, 1136), ((10, 231), 1442695040888963407, 1137), ((11, 82), 4294967295, 1186)]
def j_long (o i : Nat) : Option Int64 := (j_lt.find? (fun q => q.1 == (o, i))).map (fun q => q.2.1)
theorem j_lt_ok : j_lt.all (fun q => decide (lw_tbl[q.2.2]? = some (.constantLong (j_cn q.1.1) q.1.2 q.2.1))) = true := by decide +kernel
theorem j_long_ok {o i : Nat} {x : Int64} (h : j_long o i = some x) : Cond.constantLong (j_cn o) i x ∈ lw_tbl := by
  unfold j_long at h
  obtain ⟨q, hq, hk⟩ := Option.map_eq_some_iff.mp h
  have h1 := List.all_eq_true.mp j_lt_ok q (List.mem_of_find?_eq_some hq)
  have h2 := List.find?_some hq
  simp only [beq_iff_eq] at h2
  obtain ⟨⟨a, c⟩, z, z2⟩ := q
  cases h2
  cases hk
  simp only [decide_eq_true_eq] at h1
  exact List.mem_of_getElem? h1
theorem j_longs : j_long 4 40 = some 6364136223846793005 ∧ j_long 4 42 = some 1442695040888963407 ∧ j_long 10 229 = some 6364136223846793005 ∧ j_long 10 231 = some 1442695040888963407 ∧ j_long 11 82 = some 4294967295 := ⟨by decide +kernel, by decide +kernel, by decide +kernel, by decide +kernel, by decide +kernel⟩
theorem j_arr : Cond.arrayClass .int ∈ lw_tbl ∧ Cond.arrayClass .byte ∈ lw_tbl ∧ Cond.arrayClass .char ∈ lw_tbl ∧ Cond.arrayClass .boolean ∈ lw_tbl ∧ Cond.arrayClass .long ∈ lw_tbl := ⟨List.mem_of_getElem? (i := 105) (by decide +kernel), List.mem_of_getElem? (i := 828) (by decide +kernel), List.mem_of_getElem? (i := 188) (by decide +kernel), List.mem_of_getElem? (i := 984) (by decide +kernel), List.mem_of_getElem? (i := 1187) (by decide +kernel)⟩
theorem j_news : j_cl 11 8 = some (9, 12) ∧ j_cl 9 7 = some (3, 7) ∧ j_cl 9 16 = some (7, 9) ∧ j_cl 9 23 = some (2, 5) ∧ j_cl 9 30 = some (0, 2) ∧ j_cl 9 37 = some (5, 3) ∧ j_cl 9 44 = some (6, 3) ∧ j_cl 6 9 = some (1, 3) ∧ j_cl 9 51 = some (8, 7) ∧ j_cl 9 58 = some (1, 3) ∧ j_cl 9 69 = some (4, 5) ∧ j_cl 11 16 = some (10, 49) := ⟨by decide +kernel, by decide +kernel, by decide +kernel, by decide +kernel, by decide +kernel, by decide +kernel, by decide +kernel, by decide +kernel, by decide +kernel, by decide +kernel, by decide +kernel, by decide +kernel⟩
theorem j_nls : j_nl 11 15 = some (yX9_init, false) ∧ j_nl 9 9 = some (yX3_init, true) ∧ j_nl 9 18 = some (yX7_init, true) ∧ j_nl 9 25 = some (yX2_init, true) ∧ j_nl 9 32 = some (yX0_init, true) ∧ j_nl 9 39 = some (yX5_init, true) ∧ j_nl 9 46 = some (yX6_init, true) ∧ j_nl 6 11 = some (yX1_init, true) ∧ j_nl 9 53 = some (yX8_init, true) ∧ j_nl 9 60 = some (yX1_init, true) ∧ j_nl 9 71 = some (yX4_init, true) ∧ j_nl 11 18 = some (yX10_init, false) := ⟨by decide +kernel, by decide +kernel, by decide +kernel, by decide +kernel, by decide +kernel, by decide +kernel, by decide +kernel, by decide +kernel, by decide +kernel, by decide +kernel, by decide +kernel, by decide +kernel⟩
theorem j_ois : j_oi 9 1 = true ∧ j_oi 3 3 = true ∧ j_oi 7 3 = true ∧ j_oi 2 3 = true ∧ j_oi 0 3 = true ∧ j_oi 5 3 = true ∧ j_oi 6 3 = true ∧ j_oi 1 3 = true ∧ j_oi 8 3 = true ∧ j_oi 4 5 = true ∧ j_oi 10 1 = true := ⟨by decide +kernel, by decide +kernel, by decide +kernel, by decide +kernel, by decide +kernel, by decide +kernel, by decide +kernel, by decide +kernel, by decide +kernel, by decide +kernel, by decide +kernel⟩
theorem j_oin : j_oi 11 15 = false ∧ j_oi 9 9 = false ∧ j_oi 9 18 = false ∧ j_oi 9 25 = false ∧ j_oi 9 32 = false ∧ j_oi 9 39 = false ∧ j_oi 9 46 = false ∧ j_oi 6 11 = false ∧ j_oi 9 53 = false ∧ j_oi 9 60 = false ∧ j_oi 9 71 = false ∧ j_oi 11 18 = false := ⟨by decide +kernel, by decide +kernel, by decide +kernel, by decide +kernel, by decide +kernel, by decide +kernel, by decide +kernel, by decide +kernel, by decide +kernel, by decide +kernel, by decide +kernel, by decide +kernel⟩
end
section
/-! THE PLAIN MACHINE. A world is a list of shapes (an array's type and length; an object's number among j_cls and its fields' kinds) and a memory of ints; a reference is a place in the list. j_J: the real machine, at a frame that stands for the plain one, comes to the method's end with Q. j_wp: what one instruction asks. -/
abbrev j_M : Type := Nat → Nat → Int32
/-- a field: none: an int; some none: a reference whose place the memory holds; some (some none): null; some (some (some r)): the reference r -/
abbrev j_K : Type := Option (Option (Option Nat))
abbrev j_S : Type := (FieldType × Nat) ⊕ (Nat × List j_K)
abbrev j_L : Type := List (Option Value)
/-- the place that stands for the law's script -/
abbrev j_sc : Nat := 1000000
def j_rn (α : Nat → Nat) : Value → Value
  | .ref k => .ref (α k)
  | .int v => .int v
  | .long v => .long v
  | .float v => .float v
  | .double v => .double v
  | .null => .null
  | .retAddr v => .retAddr v
def j_fv (α : Nat → Nat) (f : Nat → Int32) (j : Nat) : j_K → Value
  | none => .int (f j)
  | some none => .ref (α (f j).toNatClampNeg)
  | some (some none) => .null
  | some (some (some r)) => .ref (α r)
def j_ce (cA : FieldType → ClassId) (α : Nat → Nat) (f : Nat → Int32) : j_S → va_E
  | .inl (ty, n) => .inl (cA ty, n, if ty = .long then .inr (.inl fun j => (f j).toInt64) else .inl f)
  | .inr (ci, ks) => .inr (ci, ks.mapIdx (fun j k => j_fv α f j k))
def j_w (cA : FieldType → ClassId) (α : Nat → Nat) (sh : List j_S) (μ : j_M) : va_W := sh.mapIdx (fun k s => (α k, j_ce cA α (μ k) s))
def j_row (μ : j_M) (a : Nat) (f : Nat → Int32) : j_M := fun b => if b = a then f else μ b
def j_up (μ : j_M) (a i : Nat) (v : Int32) : j_M := j_row μ a (upd (μ a) i v)
theorem j_w_get {cA : FieldType → ClassId} {α : Nat → Nat} {sh : List j_S} {μ : j_M} {k : Nat} {s : j_S} (h : sh[k]? = some s) : (j_w cA α sh μ)[k]? = some (α k, j_ce cA α (μ k) s) := by
  unfold j_w
  rw [List.getElem?_mapIdx, h]
  rfl
theorem j_w_len {cA : FieldType → ClassId} {α : Nat → Nat} {sh : List j_S} {μ : j_M} : (j_w cA α sh μ).length = sh.length := by
  unfold j_w
  exact List.length_mapIdx
theorem j_w_row {cA : FieldType → ClassId} {α : Nat → Nat} {sh : List j_S} {μ : j_M} {a : Nat} {s : j_S} (h : sh[a]? = some s) (f : Nat → Int32) : j_w cA α sh (j_row μ a f) = (j_w cA α sh μ).set a (α a, j_ce cA α f s) := by
  apply List.ext_getElem?
  intro k
  rw [List.getElem?_set, j_w_len]
  unfold j_w
  rw [List.getElem?_mapIdx, List.getElem?_mapIdx]
  by_cases hk : a = k
  · subst hk
    have hl : a < sh.length := (List.getElem?_eq_some_iff.mp h).1
    rw [h, if_pos rfl, if_pos hl]
    simp [j_row]
  · rw [if_neg hk]
    simp [j_row, Ne.symm hk]
theorem j_w_shape {cA : FieldType → ClassId} {α : Nat → Nat} {sh : List j_S} {μ : j_M} {a : Nat} {s' : j_S} : j_w cA α (sh.set a s') μ = (j_w cA α sh μ).set a (α a, j_ce cA α (μ a) s') := by
  apply List.ext_getElem?
  intro k
  rw [List.getElem?_set, j_w_len]
  unfold j_w
  rw [List.getElem?_mapIdx, List.getElem?_mapIdx, List.getElem?_set]
  by_cases hk : a = k
  · subst hk
    by_cases hl : a < sh.length <;> simp [hl]
  · rw [if_neg hk, if_neg hk]
theorem j_ob_put {α : Nat → Nat} {f : Nat → Int32} {ks : List j_K} {k : Nat} (v : Int32) (h : ks[k]? = some none) : (ks.mapIdx (fun j x => j_fv α f j x)).set k (.int v) = ks.mapIdx (fun j x => j_fv α (upd f k v) j x) := by
  apply List.ext_getElem?
  intro i
  rw [List.getElem?_set, List.getElem?_mapIdx, List.getElem?_mapIdx, List.length_mapIdx]
  have hl : k < ks.length := (List.getElem?_eq_some_iff.mp h).1
  by_cases hi : k = i
  · subst hi
    rw [h, if_pos rfl, if_pos hl]
    simp [j_fv, upd]
  · rw [if_neg hi]
    cases ks[i]? with
    | none => rfl
    | some x => rcases x with _ | _ | _ | r <;> simp [j_fv, upd, Ne.symm hi]
theorem j_ob_putv {α : Nat → Nat} {f : Nat → Int32} {ks : List j_K} {k r : Nat} (hr : r < 2147483648) (h : ks[k]? = some (some none)) : (ks.mapIdx (fun j x => j_fv α f j x)).set k (.ref (α r)) = ks.mapIdx (fun j x => j_fv α (upd f k (nI r)) j x) := by
  apply List.ext_getElem?
  intro i
  rw [List.getElem?_set, List.getElem?_mapIdx, List.getElem?_mapIdx, List.length_mapIdx]
  have hl : k < ks.length := (List.getElem?_eq_some_iff.mp h).1
  by_cases hi : k = i
  · subst hi
    rw [h, if_pos rfl, if_pos hl]
    simp [j_fv, upd, nI_clamp (show r < 2 ^ 31 by omega)]
  · rw [if_neg hi]
    cases ks[i]? with
    | none => rfl
    | some x => rcases x with _ | _ | _ | r <;> simp [j_fv, upd, Ne.symm hi]
theorem j_ob_putw {α : Nat → Nat} {f : Nat → Int32} {ks : List j_K} {k r : Nat} (hr : r < 2147483648) (hl : k < ks.length) : (ks.mapIdx (fun j x => j_fv α f j x)).set k (.ref (α r)) = (ks.set k (some none)).mapIdx (fun j x => j_fv α (upd f k (nI r)) j x) := by
  apply List.ext_getElem?
  intro i
  rw [List.getElem?_set, List.getElem?_mapIdx, List.getElem?_mapIdx, List.length_mapIdx, List.getElem?_set]
  by_cases hi : k = i
  · subst hi
    simp [j_fv, hl, upd, nI_clamp (show r < 2 ^ 31 by omega)]
  · rw [if_neg hi, if_neg hi]
    cases ks[i]? with
    | none => rfl
    | some x => rcases x with _ | _ | _ | r <;> simp [j_fv, upd, Ne.symm hi]
theorem j_ob_putr {α : Nat → Nat} {f : Nat → Int32} {ks : List j_K} {k r : Nat} : (ks.mapIdx (fun j x => j_fv α f j x)).set k (.ref (α r)) = (ks.set k (some (some (some r)))).mapIdx (fun j x => j_fv α f j x) := by
  apply List.ext_getElem?
  intro i
  rw [List.getElem?_set, List.getElem?_mapIdx, List.getElem?_mapIdx, List.length_mapIdx, List.getElem?_set]
  by_cases hi : k = i
  · subst hi
    by_cases hl : k < ks.length <;> simp [j_fv, hl]
  · rw [if_neg hi, if_neg hi]
/-- all references of the world lie in it -/
def j_okr (n : Nat) (sh : List j_S) (μ : j_M) : Prop := ∀ (a ci : Nat) (ks : List j_K), sh[a]? = some (.inr (ci, ks)) → ∀ (j : Nat) (x : Option (Option Nat)), ks[j]? = some (some x) → (x = none → (μ a j).toNatClampNeg < n) ∧ ∀ r, x = some (some r) → r < n
theorem j_w_grow {cA : FieldType → ClassId} {α : Nat → Nat} {sh : List j_S} {μ : j_M} {q : Nat} {s : j_S} {f : Nat → Int32} (h : j_okr sh.length sh μ) : j_w cA (fun k => if k = sh.length then q else α k) (sh ++ [s]) (j_row μ sh.length f) = j_w cA α sh μ ++ [(q, j_ce cA (fun k => if k = sh.length then q else α k) f s)] := by
  apply List.ext_getElem?
  intro k
  by_cases hk : k < sh.length
  · rw [List.getElem?_append_left (by rw [j_w_len]; exact hk)]
    unfold j_w
    rw [List.getElem?_mapIdx, List.getElem?_mapIdx, List.getElem?_append_left hk]
    cases hs : sh[k]? with
    | none => rfl
    | some x =>
      have hne : k ≠ sh.length := Nat.ne_of_lt hk
      simp only [Option.map_some, if_neg hne, j_row]
      rcases x with ⟨ty, n⟩ | ⟨ci, ks⟩
      · rfl
      · simp only [j_ce]
        congr 4
        apply List.ext_getElem?
        intro j
        rw [List.getElem?_mapIdx, List.getElem?_mapIdx]
        cases hj : ks[j]? with
        | none => rfl
        | some x =>
          rcases x with _ | _ | _ | r
          · rfl
          · have h1 := (h k ci ks hs j _ hj).1 rfl
            simp only [Option.map_some, j_fv, if_neg (Nat.ne_of_lt h1)]
          · rfl
          · have h1 := (h k ci ks hs j _ hj).2 r rfl
            simp only [Option.map_some, j_fv, if_neg (Nat.ne_of_lt h1)]
  · rw [List.getElem?_append_right (by rw [j_w_len]; omega), j_w_len]
    unfold j_w
    rw [List.getElem?_mapIdx, List.getElem?_append_right (by omega)]
    by_cases hk2 : k = sh.length
    · subst hk2
      simp [j_row]
    · have h0 : k - sh.length = (k - sh.length - 1) + 1 := by omega
      rw [h0]
      simp
/-- the locals -/
def j_okv (n : Nat) (v : Value) : Prop := ∀ k, v = .ref k → k < n ∨ k = j_sc
def j_Lr (α : Nat → Nat) (n nL : Nat) (ls : j_L) (lr : Array Slot) : Prop := lr.size = nL ∧ lv_wf lr ∧ ls.length = nL ∧ ∀ (i : Nat) (v : Value), ls[i]? = some (some v) → lr[i]? = some (.val (j_rn α v)) ∧ j_okv n v
def j_k1 : Option Value → Option Value
  | some (.long _) => none
  | some (.double _) => none
  | some (.int v) => some (.int v)
  | some (.ref v) => some (.ref v)
  | some (.float v) => some (.float v)
  | some .null => some .null
  | some (.retAddr v) => some (.retAddr v)
  | none => none
def j_ld : j_L → Nat → Option Value
  | [], _ => none
  | x :: _, 0 => x
  | _ :: l, n + 1 => j_ld l n
def j_st1 : j_L → Nat → Value → j_L
  | [], _, _ => []
  | _ :: l, 0, v => some v :: l
  | x :: l, 1, v => j_k1 x :: j_st1 l 0 v
  | x :: l, n + 2, v => x :: j_st1 l (n + 1) v
def j_st2 : j_L → Nat → Value → j_L
  | [], _, _ => []
  | [_], 0, v => [some v]
  | _ :: _ :: l, 0, v => some v :: none :: l
  | x :: l, 1, v => j_k1 x :: j_st2 l 0 v
  | x :: l, n + 2, v => x :: j_st2 l (n + 1) v
theorem j_ld_get : ∀ (l : j_L) (n : Nat), j_ld l n = (l[n]?).join
  | [], n => by simp [j_ld]
  | x :: l, 0 => by simp [j_ld]
  | x :: l, n + 1 => by simp [j_ld, j_ld_get l n]
theorem j_k1_some {x : Option Value} {v : Value} (h : j_k1 x = some v) : x = some v ∧ v.category = 1 := by
  rcases x with _ | x
  · cases h
  · cases x <;> cases h <;> exact ⟨rfl, rfl⟩
theorem j_st1_len : ∀ (l : j_L) (n : Nat) (v : Value), (j_st1 l n v).length = l.length
  | [], _, _ => rfl
  | _ :: _, 0, _ => rfl
  | x :: l, 1, v => by simp [j_st1, j_st1_len l 0 v]
  | x :: l, n + 2, v => by simp [j_st1, j_st1_len l (n + 1) v]
theorem j_st2_len : ∀ (l : j_L) (n : Nat) (v : Value), (j_st2 l n v).length = l.length
  | [], _, _ => rfl
  | [_], 0, _ => rfl
  | _ :: _ :: _, 0, _ => rfl
  | x :: l, 1, v => by simp [j_st2, j_st2_len l 0 v]
  | x :: l, n + 2, v => by simp [j_st2, j_st2_len l (n + 1) v]
theorem j_st1_get : ∀ (l : j_L) (n : Nat) (v : Value) (j : Nat) (w : Value), (j_st1 l n v)[j]? = some (some w) → (j = n ∧ w = v) ∨ (j ≠ n ∧ l[j]? = some (some w) ∧ (j + 1 = n → w.category = 1))
  | [], _, _, j, w, h => by simp [j_st1] at h
  | x :: l, 0, v, j, w, h => by
    cases j with
    | zero => simp [j_st1] at h; exact Or.inl ⟨rfl, h.symm⟩
    | succ j => simp [j_st1] at h; exact Or.inr ⟨by omega, by simpa using h, by omega⟩
  | x :: l, 1, v, j, w, h => by
    cases j with
    | zero =>
      simp [j_st1] at h
      obtain ⟨h1, h2⟩ := j_k1_some h
      exact Or.inr ⟨by omega, by simp [h1], fun _ => h2⟩
    | succ j =>
      simp only [j_st1, List.getElem?_cons_succ] at h
      rcases j_st1_get l 0 v j w h with ⟨h1, h2⟩ | ⟨h1, h2, h3⟩
      · exact Or.inl ⟨by omega, h2⟩
      · exact Or.inr ⟨by omega, by simpa using h2, by omega⟩
  | x :: l, n + 2, v, j, w, h => by
    cases j with
    | zero => simp [j_st1] at h; exact Or.inr ⟨by omega, by simp [h], by omega⟩
    | succ j =>
      simp only [j_st1, List.getElem?_cons_succ] at h
      rcases j_st1_get l (n + 1) v j w h with ⟨h1, h2⟩ | ⟨h1, h2, h3⟩
      · exact Or.inl ⟨by omega, h2⟩
      · exact Or.inr ⟨by omega, by simpa using h2, fun e => h3 (by omega)⟩
theorem j_st2_get : ∀ (l : j_L) (n : Nat) (v : Value) (j : Nat) (w : Value), (j_st2 l n v)[j]? = some (some w) → (j = n ∧ w = v) ∨ (j ≠ n ∧ j ≠ n + 1 ∧ l[j]? = some (some w) ∧ (j + 1 = n → w.category = 1))
  | [], _, _, j, w, h => by simp [j_st2] at h
  | [x], 0, v, j, w, h => by
    cases j with
    | zero => simp [j_st2] at h; exact Or.inl ⟨rfl, h.symm⟩
    | succ j => simp [j_st2] at h
  | x :: y :: l, 0, v, j, w, h => by
    match j, h with
    | 0, h => simp [j_st2] at h; exact Or.inl ⟨rfl, h.symm⟩
    | 1, h => simp [j_st2] at h
    | j + 2, h => simp [j_st2] at h; exact Or.inr ⟨by omega, by omega, by simpa using h, by omega⟩
  | x :: l, 1, v, j, w, h => by
    cases j with
    | zero =>
      simp [j_st2] at h
      obtain ⟨h1, h2⟩ := j_k1_some h
      exact Or.inr ⟨by omega, by omega, by simp [h1], fun _ => h2⟩
    | succ j =>
      simp only [j_st2, List.getElem?_cons_succ] at h
      rcases j_st2_get l 0 v j w h with ⟨h1, h2⟩ | ⟨h1, h1', h2, h3⟩
      · exact Or.inl ⟨by omega, h2⟩
      · exact Or.inr ⟨by omega, by omega, by simpa using h2, by omega⟩
  | x :: l, n + 2, v, j, w, h => by
    cases j with
    | zero => simp [j_st2] at h; exact Or.inr ⟨by omega, by omega, by simp [h], by omega⟩
    | succ j =>
      simp only [j_st2, List.getElem?_cons_succ] at h
      rcases j_st2_get l (n + 1) v j w h with ⟨h1, h2⟩ | ⟨h1, h1', h2, h3⟩
      · exact Or.inl ⟨by omega, h2⟩
      · exact Or.inr ⟨by omega, by omega, by simpa using h2, fun e => h3 (by omega)⟩
/-- the known locals as the kit lists them -/
def j_as (α : Nat → Nat) (ls : j_L) : List (Nat × Value) := (List.range ls.length).filterMap (fun i => (j_ld ls i).map (fun v => (i, j_rn α v)))
theorem j_as_mem {α : Nat → Nat} {ls : j_L} {i : Nat} {v : Value} (h : ls[i]? = some (some v)) : (i, j_rn α v) ∈ j_as α ls := by
  unfold j_as
  refine List.mem_filterMap.mpr ⟨i, List.mem_range.mpr (List.getElem?_eq_some_iff.mp h).1, ?_⟩
  rw [j_ld_get, h]
  rfl
theorem j_as_of {α : Nat → Nat} {ls : j_L} {q : Nat × Value} (h : q ∈ j_as α ls) : ∃ v, ls[q.1]? = some (some v) ∧ q.2 = j_rn α v := by
  unfold j_as at h
  obtain ⟨i, -, h2⟩ := List.mem_filterMap.mp h
  obtain ⟨v, h3, h4⟩ := Option.map_eq_some_iff.mp h2
  subst h4
  rw [j_ld_get] at h3
  refine ⟨v, ?_, rfl⟩
  cases h5 : ls[i]? with
  | none => rw [h5] at h3; cases h3
  | some x => rw [h5] at h3; exact congrArg some h3
theorem j_rn_cat (α : Nat → Nat) (v : Value) : (j_rn α v).category = v.category := by cases v <;> rfl
theorem j_Lr.has {α : Nat → Nat} {n nL : Nat} {ls : j_L} {lr : Array Slot} (h : j_Lr α n nL ls lr) : lv_has lr nL (j_as α ls) := by
  refine ⟨h.1, h.2.1, fun q hq => ?_⟩
  obtain ⟨v, h1, h2⟩ := j_as_of hq
  rw [h2]
  exact (h.2.2.2 q.1 v h1).1
theorem j_Lr.get {α : Nat → Nat} {n nL : Nat} {ls : j_L} {lr : Array Slot} (h : j_Lr α n nL ls lr) {i : Nat} {v : Value} (hv : j_ld ls i = some v) : lr[i]? = some (.val (j_rn α v)) ∧ j_okv n v := by
  refine h.2.2.2 i v ?_
  rw [j_ld_get] at hv
  cases h5 : ls[i]? with
  | none => rw [h5] at hv; cases hv
  | some x => rw [h5] at hv; exact congrArg some hv
theorem j_Lr.lt {α : Nat → Nat} {n nL : Nat} {ls : j_L} {lr : Array Slot} (h : j_Lr α n nL ls lr) {i : Nat} {v : Value} (hv : j_ld ls i = some v) : i < nL := by
  have h1 := (h.get hv).1
  rw [← h.1]
  exact (Array.getElem?_eq_some_iff.mp h1).1
theorem j_Lr.set1 {α : Nat → Nat} {n nL : Nat} {ls : j_L} {lr lr' : Array Slot} (h : j_Lr α n nL ls lr) {i : Nat} {v : Value} (hv : j_okv n v) (h' : lv_has lr' nL ((i, j_rn α v) :: (j_as α ls).filter (fun q => !(q.1 == i) && !(q.1 + 1 == i && q.2.category == 2)))) : j_Lr α n nL (j_st1 ls i v) lr' := by
  refine ⟨h'.1, h'.2.1, (j_st1_len ls i v).trans h.2.2.1, fun j w hj => ?_⟩
  rcases j_st1_get ls i v j w hj with ⟨h1, h2⟩ | ⟨h1, h2, h3⟩
  · subst h1; subst h2
    exact ⟨h'.2.2 (j, j_rn α w) List.mem_cons_self, hv⟩
  · refine ⟨h'.2.2 (j, j_rn α w) (List.mem_cons_of_mem _ (List.mem_filter.mpr ⟨j_as_mem h2, ?_⟩)), (h.2.2.2 j w h2).2⟩
    simp only [Bool.and_eq_true, Bool.not_eq_true', beq_eq_false_iff_ne, ne_eq, Bool.and_eq_false_iff, j_rn_cat]
    refine ⟨h1, ?_⟩
    by_cases e : j + 1 = i
    · exact Or.inr (by rw [h3 e]; decide)
    · exact Or.inl e
theorem j_Lr.set2 {α : Nat → Nat} {n nL : Nat} {ls : j_L} {lr lr' : Array Slot} (h : j_Lr α n nL ls lr) {i : Nat} {v : Value} (hv : j_okv n v) (h' : lv_has lr' nL ((i, j_rn α v) :: (j_as α ls).filter (fun q => !(q.1 == i) && (!(q.1 == i + 1) && !(q.1 + 1 == i && q.2.category == 2))))) : j_Lr α n nL (j_st2 ls i v) lr' := by
  refine ⟨h'.1, h'.2.1, (j_st2_len ls i v).trans h.2.2.1, fun j w hj => ?_⟩
  rcases j_st2_get ls i v j w hj with ⟨h1, h2⟩ | ⟨h1, h1', h2, h3⟩
  · subst h1; subst h2
    exact ⟨h'.2.2 (j, j_rn α w) List.mem_cons_self, hv⟩
  · refine ⟨h'.2.2 (j, j_rn α w) (List.mem_cons_of_mem _ (List.mem_filter.mpr ⟨j_as_mem h2, ?_⟩)), (h.2.2.2 j w h2).2⟩
    simp only [Bool.and_eq_true, Bool.not_eq_true', beq_eq_false_iff_ne, ne_eq, Bool.and_eq_false_iff, j_rn_cat]
    refine ⟨h1, h1', ?_⟩
    by_cases e : j + 1 = i
    · exact Or.inr (by rw [h3 e]; decide)
    · exact Or.inl e
theorem j_okv_ext {n n' : Nat} {v : Value} (h : j_okv n v) (hn : n ≤ n') : j_okv n' v := fun k hk => (h k hk).elim (fun z => Or.inl (Nat.lt_of_lt_of_le z hn)) Or.inr
theorem j_rn_ext {α α' : Nat → Nat} {n : Nat} {v : Value} (h : j_okv n v) (ha : ∀ k, k < n ∨ k = j_sc → α' k = α k) : j_rn α' v = j_rn α v := by
  cases v with
  | ref k => simp only [j_rn]; rw [ha k (h k rfl)]
  | _ => rfl
theorem j_Lr.ext {α α' : Nat → Nat} {n n' nL : Nat} {ls : j_L} {lr : Array Slot} (h : j_Lr α n nL ls lr) (hn : n ≤ n') (ha : ∀ k, k < n ∨ k = j_sc → α' k = α k) : j_Lr α' n' nL ls lr := by
  refine ⟨h.1, h.2.1, h.2.2.1, fun i v hv => ?_⟩
  obtain ⟨h1, h2⟩ := h.2.2.2 i v hv
  rw [j_rn_ext h2 ha]
  exact ⟨h1, j_okv_ext h2 hn⟩
theorem j_map_ext {α α' : Nat → Nat} {n : Nat} {st : List Value} (h : ∀ v ∈ st, j_okv n v) (ha : ∀ k, k < n ∨ k = j_sc → α' k = α k) : st.map (j_rn α') = st.map (j_rn α) := List.map_congr_left fun v hv => j_rn_ext (h v hv) ha
/-- fewer known locals -/
def j_le : j_L → j_L → Prop
  | [], [] => True
  | x :: l, y :: k => (x = none ∨ x = y) ∧ j_le l k
  | _, _ => False
theorem j_le_get : ∀ (l k : j_L), j_le l k → l.length = k.length ∧ ∀ (i : Nat) (v : Value), l[i]? = some (some v) → k[i]? = some (some v)
  | [], [], _ => ⟨rfl, fun _ _ h => h⟩
  | x :: l, y :: k, h => by
    obtain ⟨h1, h2⟩ := j_le_get l k h.2
    refine ⟨by simp [h1], fun i v hv => ?_⟩
    cases i with
    | zero =>
      simp only [List.getElem?_cons_zero, Option.some.injEq] at hv ⊢
      rcases h.1 with e | e
      · rw [e] at hv; cases hv
      · rw [← e]; exact hv
    | succ i =>
      simp only [List.getElem?_cons_succ] at hv ⊢
      exact h2 i v hv
  | [], _ :: _, h => h.elim
  | _ :: _, [], h => h.elim
theorem j_Lr.le {α : Nat → Nat} {n nL : Nat} {ls k : j_L} {lr : Array Slot} (h : j_Lr α n nL k lr) (hl : j_le ls k) : j_Lr α n nL ls lr := by
  obtain ⟨h1, h2⟩ := j_le_get ls k hl
  exact ⟨h.1, h.2.1, h1.trans h.2.2.1, fun i v hv => h.2.2.2 i v (h2 i v hv)⟩
end
section
/-! the judgement -/
def j_G : List Cond := lw_tbl.filter goodWord
theorem j_in {w : Cond} (h : w ∈ lw_tbl) (hg : goodWord w = true) : w ∈ j_G := List.mem_filter.mpr ⟨h, hg⟩
theorem j_goodG : ∀ w ∈ j_G, goodWord w = true := fun _ h => (List.mem_filter.mp h).2
theorem j_goodIn : GoodIn j_G j_G := fun w hw => ⟨hw, good_of_word (j_goodG w hw)⟩
theorem j_inF {C : String} {T : u_T} {N : Nat} (h : ∀ w ∈ u_ws C T N, w ∈ lw_tbl) : ∀ w ∈ u_ws C T N, w ∈ j_G := by
  intro w hw
  refine j_in (h w hw) ?_
  unfold u_ws at hw
  obtain ⟨k, -, rfl⟩ := List.mem_map.mp hw
  unfold u_lay
  split <;> rfl
/-- the words that link private members of nest mates -/
def j_NW : List Cond := lw_tbl.filter (fun w => match w with
  | .methodLinkNest .. => true
  | _ => false)
theorem j_NW_warm {w : Cond} (hw : w ∈ j_NW) {s U : State} (hW : s.WarmedH U.vm) (h : va_Nw w s) : va_Nw w U := by
  have h1 := (List.mem_filter.mp hw).2
  cases w <;> first | exact va_Nw.warmM hW h | cases h1
theorem j_NW_same {w : Cond} (hw : w ∈ j_NW) {s U : State} (hW : s.vm = U.vm) (h : va_Nw w s) : va_Nw w U := by
  have h1 := (List.mem_filter.mp hw).2
  cases w <;> first | exact va_Nw.same rfl hW h | cases h1
def j_tys (cA : FieldType → ClassId) : List (ClassId × FieldType) := [(cA .int, .int), (cA .byte, .byte), (cA .char, .char), (cA .boolean, .boolean), (cA .long, .long)]
def j_rm (d mc ms : Nat) : Room := { frames := d, cells := mc, slots := ms, locals := 64 * d + 16 }
def j_Ctx (cc : ByteArray) (o nL : Nat) (ret : Option FieldType) (ini : Bool) (d : Nat) (p : Program) (R : Room) (s : State) (m : MethodId) (args : Array Value) (meth : Method) (c : Code) : Prop :=
  p.tables.exec = Jvm.exec ∧ c.code = cc ∧ c.maxLocals = nL ∧ meth.sig.returnType = ret ∧ meth.locks = false ∧ (ini = true → meth.name = "<init>") ∧ s.vm.findClass (j_cn o) = some m.cls ∧ (∀ w ∈ j_G, w.before args s = true) ∧ d ≤ R.frames ∧ 64 * d + 16 ≤ R.locals
def j_Wd (D : va_G) (cA : FieldType → ClassId) (A : Nat → Prop) (α : Nat → Nat) (sh : List j_S) (μ : j_M) (s : State) (H : Heap) (locs : List Loc) : Prop :=
  va_K D j_cls (j_tys cA) s ∧ va_P D j_cls (j_w cA α sh μ) H ∧ va_D A (j_w cA α sh μ) ∧ va_S A s.heap H locs ∧ (∀ q, s.heap.size ≤ q → A q) ∧ (∀ w ∈ j_NW, va_Nw w s)
def j_Xs (xs : Option (Nat × (Nat → Int32))) (α : Nat → Nat) (A : Nat → Prop) (s : State) : Prop := match xs with
  | none => True
  | some (L, f) => va_X (α j_sc) L f s s.heap ∧ α j_sc < s.heap.size ∧ ¬ A (α j_sc)
/-- a method's post-condition, of the plain world -/
abbrev j_Q : Type := Option Int32 → List j_S → j_M → Prop
def j_J (cc : ByteArray) (o nL : Nat) (ret : Option FieldType) (ini : Bool) (d : Nat) (xs : Option (Nat × (Nat → Int32))) (Q : j_Q) (sh : List j_S) (mc ms pc : Nat) (ls : j_L) (st : List Value) (μ : j_M) : Prop :=
  ∀ (p : Program) (l : Launch) (e : Env) (R : Room) (s : State) (m : MethodId) (args : Array Value) (below : List Frame) (meth : Method) (c : Code) (D : va_G) (cA : FieldType → ClassId) (A : Nat → Prop) (α : Nat → Nat) (H : Heap) (locs : List Loc) (cells slots : Nat) (lr : Array Slot) (QF : State → Prop),
    j_Ctx cc o nL ret ini d p R s m args meth c → j_Wd D cA A α sh μ s H locs → cells + mc ≤ R.cells → slots + ms ≤ R.slots → j_Lr α sh.length nL ls lr → (∀ v ∈ st, j_okv sh.length v) → j_Xs xs α A s →
    (∀ (r : Option Int32) (sh' : List j_S) (μ' : j_M) (α' : Nat → Nat) (H' : Heap) (locs' : List Loc) (cells' slots' : Nat) (lr' : Array Slot) (pc' : Nat), Q r sh' μ' → sh.length ≤ sh'.length → (∀ k, k < sh.length ∨ k = j_sc → α' k = α k) → j_Wd D cA A α' sh' μ' s H' locs' → cells' ≤ R.cells → slots' ≤ R.slots →
      (r = none → decode cc pc' = .ok (.return_, 1) ∧ ret = none) → (∀ v, r = some v → decode cc pc' = .ok (.ireturn, 1) ∧ ∃ ty, ret = some ty ∧ narrow ty (.int v) = .int v) →
      W p l e R s m args below meth c H' locs' cells' slots' QF (F0 m pc' lr' (r.map Value.int).toList)) →
    W p l e R s m args below meth c H locs cells slots QF (F0 m pc lr (st.map (j_rn α)))
def j_Pc (D : va_G) (cA : FieldType → ClassId) (α : Nat → Nat) (sh : List j_S) (μ : j_M) (as : List Value) (sz : Nat) : Array Value → State → Prop :=
  va_Pc (as.map (j_rn α)) (fun U => U.heap.size = sz ∧ va_P D j_cls (j_w cA α sh μ) U.heap ∧ va_K D j_cls (j_tys cA) U ∧ va_D (fun _ => True) (j_w cA α sh μ) ∧ ∀ w ∈ j_NW, va_Nw w U)
def j_Qe (D : va_G) (cA : FieldType → ClassId) (α : Nat → Nat) (n : Nat) (A : Nat → Prop) (Q : j_Q) : Array Value → State → Outcome → State → Prop := fun _ st oc t =>
  (∃ (r : Option Int32) (sh' : List j_S) (μ' : j_M) (α' : Nat → Nat), oc = .returned (r.map Value.int) ∧ Q r sh' μ' ∧ n ≤ sh'.length ∧ (∀ k, k < n ∨ k = j_sc → α' k = α k) ∧ va_P D j_cls (j_w cA α' sh' μ') t.heap ∧ va_K D j_cls (j_tys cA) t ∧ va_D A (j_w cA α' sh' μ')) ∧ va_F A st t
/-- the contract of y, at these arguments, in this world -/
def j_Call (d mc ms : Nat) (y : MethodName) (sh : List j_S) (as : List Value) (μ : j_M) (Q : j_Q) : Prop :=
  ∃ (cc : ByteArray) (maxL : Nat) (ret : Option FieldType), Cond.code y cc maxL ret ∈ j_G ∧ maxL ≤ 45 ∧ ((∀ v ∈ as, j_okv sh.length v) → ∀ (l : Launch) (D : va_G) (cA : FieldType → ClassId) (α : Nat → Nat) (sz : Nat),
    Met l y (.code y cc maxL ret :: j_G) (j_rm d mc ms) (j_Pc D cA α sh μ as sz) (j_Qe D cA α sh.length (va_A (j_w cA α sh μ) sz) Q) mc ms (va_A (j_w cA α sh μ) sz))
def j_X (d mc ms : Nat) (y : MethodName) (sh : List j_S) (as : List Value) (μ : j_M) (K : Nat → Nat → Option Int32 → List j_S → j_M → Prop) : Prop :=
  ∃ (d1 mc1 ms1 : Nat) (Q1 : j_Q), d1 + 1 ≤ d ∧ mc1 ≤ mc ∧ ms1 ≤ ms ∧ j_Call d1 mc1 ms1 y sh as μ Q1 ∧ ∀ r sh' μ', Q1 r sh' μ' → K (mc - mc1) (ms - ms1) r sh' μ'
/-- fewer known locals suffice -/
theorem j_J.le {cc : ByteArray} {o nL : Nat} {ret : Option FieldType} {ini : Bool} {d : Nat} {xs : Option (Nat × (Nat → Int32))} {Q : j_Q} {sh : List j_S} {mc ms pc : Nat} {ls k : j_L} {st : List Value} {μ : j_M} (h : j_J cc o nL ret ini d xs Q sh mc ms pc ls st μ) (hl : j_le ls k) : j_J cc o nL ret ini d xs Q sh mc ms pc k st μ := by
  intro p l e R s m args below meth c D cA A α H locs cells slots lr QF h1 h2 h3 h4 h5 h6 h7 h8
  exact h p l e R s m args below meth c D cA A α H locs cells slots lr QF h1 h2 h3 h4 (h5.le hl) h6 h7 h8
/-- less room suffices -/
theorem j_J.room {cc : ByteArray} {o nL : Nat} {ret : Option FieldType} {ini : Bool} {d : Nat} {xs : Option (Nat × (Nat → Int32))} {Q : j_Q} {sh : List j_S} {mc ms mc' ms' pc : Nat} {ls : j_L} {st : List Value} {μ : j_M} (h : j_J cc o nL ret ini d xs Q sh mc ms pc ls st μ) (h1 : mc ≤ mc') (h2 : ms ≤ ms') : j_J cc o nL ret ini d xs Q sh mc' ms' pc ls st μ := by
  intro p l e R s m args below meth c D cA A α H locs cells slots lr QF a1 a2 a3 a4
  exact h p l e R s m args below meth c D cA A α H locs cells slots lr QF a1 a2 (by omega) (by omega)
/-- a weaker end -/
theorem j_J.post {cc : ByteArray} {o nL : Nat} {ret : Option FieldType} {ini : Bool} {d : Nat} {xs : Option (Nat × (Nat → Int32))} {Q Q' : j_Q} {sh : List j_S} {mc ms pc : Nat} {ls : j_L} {st : List Value} {μ : j_M} (h : j_J cc o nL ret ini d xs Q sh mc ms pc ls st μ) (hQ : ∀ r sh' μ', Q r sh' μ' → Q' r sh' μ') : j_J cc o nL ret ini d xs Q' sh mc ms pc ls st μ := by
  intro p l e R s m args below meth c D cA A α H locs cells slots lr QF a1 a2 a3 a4 a5 a6 a7 a8
  exact h p l e R s m args below meth c D cA A α H locs cells slots lr QF a1 a2 a3 a4 a5 a6 a7 (fun r sh' μ' α' H' locs' cells' slots' lr' pc' hq => a8 r sh' μ' α' H' locs' cells' slots' lr' pc' (hQ r sh' μ' hq))
/-- THE METHOD: from its first instruction on -/
theorem j_call {cc : ByteArray} {o nL : Nat} {ret : Option FieldType} {ini : Bool} {d mc ms : Nat} {y : MethodName} {sh : List j_S} {as : List Value} {μ : j_M} {Q : j_Q} (ls : j_L)
    (hcode : Cond.code y cc nL ret ∈ lw_tbl) (hn : nL ≤ 45) (hy : plainName y.cls = true) (ho : j_cn o = y.cls) (hini : ini = true → y.name = "<init>") (hlen : (lg_sl as).length ≤ nL)
    (hls : ls.length = nL ∧ ∀ (i : Nat) (v : Value), ls[i]? = some (some v) → (i, v) ∈ lv_args 0 as)
    (h : j_J cc o nL ret ini d none Q sh mc ms 0 ls [] μ) : j_Call d mc ms y sh as μ Q := by
  refine ⟨cc, nL, ret, j_in hcode rfl, hn, fun hok l D cA α sz => ?_⟩
  refine Met.ofW (cc := cc) (maxL := nL) (ret := ret) hy rfl ?_
  intro p e s m args below meth c s₁ B hml hv
  obtain ⟨rfl, hsz, hP, hK, hD0, hN0⟩ := hv
  have hts := atoms_spec (ws := .code y cc nL ret :: j_G) B.pre
  have hown : s.vm.findClass y.cls = some m.cls := findClass_of_methodNamed B.named
  subst hsz
  have hlk := B.notSynchronized
  have hsl : lg_sl (as.map (j_rn α)) = (lg_sl as).map (fun x => match x with | .val v => .val (j_rn α v) | z => z) := by
    clear hok hls hlen hP hK hD0 B hts hN0
    unfold lg_sl
    induction as with
    | nil => rfl
    | cons v t ih =>
      simp only [List.map_cons, List.flatMap_cons, List.map_append, ih, j_rn_cat]
      congr 1
      by_cases hc : v.category = 2
      · simp [hc]
      · simp [hc]
  have hlen' : (lg_sl (as.map (j_rn α))).length ≤ nL := by rw [hsl, List.length_map]; exact hlen
  have hl := lv_entry (as.map (j_rn α)) (n := nL) hlen'
  rw [lg_entry_eq]
  generalize (lg_sl (as.map (j_rn α)) ++ List.replicate (nL - (lg_sl (as.map (j_rn α))).length) Slot.unset).toArray = lr at hl ⊢
  have hav : ∀ (n : Nat) (vs : List Value), lv_args n (vs.map (j_rn α)) = (lv_args n vs).map (fun q => (q.1, j_rn α q.2)) := by
    intro n vs
    induction vs generalizing n with
    | nil => rfl
    | cons v t ih => simp only [List.map_cons, lv_args, j_rn_cat, ih]
  have hmem : ∀ (n : Nat) (vs : List Value) (q : Nat × Value), q ∈ lv_args n vs → q.2 ∈ vs := by
    intro n vs
    induction vs generalizing n with
    | nil => intro q hq; cases hq
    | cons v t ih =>
      intro q hq
      simp only [lv_args] at hq
      rcases List.mem_cons.mp hq with rfl | hq
      · exact List.mem_cons_self
      · exact List.mem_cons_of_mem _ (ih _ q hq)
  refine h p l e (j_rm d mc ms) s m (as.map (j_rn α)).toArray below meth c D cA (va_A (j_w cA α sh μ) s.heap.size) α s.heap [] 0 0 lr _ ?_ ?_ ?_ ?_ ?_ ?_ ?_ ?_
  · refine ⟨B.exec, B.bytes, hml, B.returns, hlk, fun hi => ?_, ?_, fun w hw => hts w (List.mem_cons_of_mem _ hw), Nat.le_refl _, Nat.le_refl _⟩
    · rw [(name_of_methodNamed B.named B.method).1]; exact hini hi
    · rw [ho]; exact hown
  · exact ⟨hK, hP, hD0.self, va_S.rf, fun q hq => Or.inr hq, hN0⟩
  · show 0 + mc ≤ mc
    omega
  · show 0 + ms ≤ ms
    omega
  · refine ⟨hl.1, hl.2.1, hls.1, fun i v hv => ?_⟩
    have h1 := hls.2 i v hv
    refine ⟨hl.2.2 (i, j_rn α v) ?_, hok v (hmem 0 as _ h1)⟩
    rw [hav]
    exact List.mem_map.mpr ⟨(i, v), h1, rfl⟩
  · intro v hv; cases hv
  · trivial
  · intro r sh' μ' α' H' locs' cells' slots' lr' pc' hq hle hα hW hc1 hc2 hr0 hr1
    obtain ⟨wK, wP, wD, wS, wA, wN⟩ := hW
    have hfin : ∀ t : State, t.heap = H' → s.WarmedH t.vm → j_Qe D cA α sh.length (va_A (j_w cA α sh μ) s.heap.size) Q (as.map (j_rn α)).toArray s (.returned (r.map Value.int)) t := by
      intro t ht hw
      exact ⟨⟨r, sh', μ', α', rfl, hq, hle, hα, by rw [ht]; exact wP, va_K.moved hw.alike wK, wD⟩, wS.F ht⟩
    refine W.widen (k := mc) (n := ms) hc1 hc2 ?_
    cases r with
    | none =>
      obtain ⟨e1, e2⟩ := hr0 rfl
      exact W.vret B.exec B.bytes (by rw [B.returns]; exact e2) hfin wS.2.2 e1
    | some v =>
      obtain ⟨e1, ty, e2, e3⟩ := hr1 v rfl
      exact W.zret B.exec B.bytes (by rw [B.returns]; exact e2) e3 hfin wS.2.2 e1
end
section
/-! calls -/
theorem j_cls_nm : ∀ (i : Nat) (q : vw_C), j_cls[i]? = some q → q.1 = j_cn i := by
  intro i q h
  match i, h with
  | 0, h => cases h; rfl
  | 1, h => cases h; rfl
  | 2, h => cases h; rfl
  | 3, h => cases h; rfl
  | 4, h => cases h; rfl
  | 5, h => cases h; rfl
  | 6, h => cases h; rfl
  | 7, h => cases h; rfl
  | 8, h => cases h; rfl
  | 9, h => cases h; rfl
  | 10, h => cases h; rfl
  | n + 11, h => simp [j_cls] at h
theorem j_recv {D : va_G} {cA : FieldType → ClassId} {α : Nat → Nat} {sh : List j_S} {μ : j_M} {s : State} {H : Heap} {a ci : Nat} {ks : List j_K} (hK : va_K D j_cls (j_tys cA) s) (hP : va_P D j_cls (j_w cA α sh μ) H) (ha : sh[a]? = some (.inr (ci, ks))) : ∃ cell : Cell, H[α a]? = some cell ∧ cell.vm.isStatics = false ∧ s.vm.findClass (j_cn ci) = some cell.cls := by
  have he := j_w_get (cA := cA) (α := α) (μ := μ) ha
  obtain ⟨q, h1, -⟩ := hP a _ he
  have h2 := va_recv hK hP h1 he
  rw [j_cls_nm _ _ h1] at h2
  exact h2
theorem j_blind {D : va_G} {cA : FieldType → ClassId} {α : Nat → Nat} {sh : List j_S} {μ : j_M} {as : List Value} {sz : Nat} : FrameBlind (j_Pc D cA α sh μ as sz) := by
  intro a U g mk q
  obtain ⟨q0, q1, qP, qK, qD, qN⟩ := q
  exact ⟨q0, q1, qP, va_K.moved (u := U) (U := U.calling g mk a) (Vm.Alike.refl U.vm) qK, qD, fun w hw => j_NW_same (s := U) (U := U.calling g mk a) hw rfl (qN w hw)⟩
theorem j_wsG {y : MethodName} {cc : ByteArray} {maxL : Nat} {ret : Option FieldType} (h : Cond.code y cc maxL ret ∈ j_G) : GoodIn j_G (.code y cc maxL ret :: j_G) := by
  intro w hw
  rcases List.mem_cons.mp hw with rfl | hw
  · exact j_goodIn _ h
  · exact j_goodIn w hw
/-- behind a call -/
theorem j_after {cc : ByteArray} {o nL : Nat} {ret : Option FieldType} {ini : Bool} {d : Nat} {xs : Option (Nat × (Nat → Int32))} {Q Q1 : j_Q} {sh : List j_S} {mc ms mc1 ms1 pc : Nat} {ls : j_L} {rest st0 : List Value} {μ : j_M} {a : Array Value}
    {p : Program} {l : Launch} {e : Env} {R : Room} {s : State} {m : MethodId} {args : Array Value} {below : List Frame} {meth : Method} {c : Code} {D : va_G} {cA : FieldType → ClassId} {A : Nat → Prop} {α : Nat → Nat} {H : Heap} {locs : List Loc} {cells slots : Nat} {lr : Array Slot} {QF : State → Prop}
    (hmc : mc1 ≤ mc) (hms : ms1 ≤ ms) (hK : ∀ r sh' μ', Q1 r sh' μ' → j_J cc o nL ret ini d xs Q sh' (mc - mc1) (ms - ms1) (pc + 3) ls ((r.map Value.int).toList ++ rest) μ')
    (h1 : j_Ctx cc o nL ret ini d p R s m args meth c) (h2 : j_Wd D cA A α sh μ s H locs) (h3 : cells + mc ≤ R.cells) (h4 : slots + ms ≤ R.slots) (h5 : j_Lr α sh.length nL ls lr) (h6 : ∀ v ∈ rest, j_okv sh.length v) (h7 : j_Xs xs α A s)
    (h8 : ∀ (r : Option Int32) (sh' : List j_S) (μ' : j_M) (α' : Nat → Nat) (H' : Heap) (locs' : List Loc) (cells' slots' : Nat) (lr' : Array Slot) (pc' : Nat), Q r sh' μ' → sh.length ≤ sh'.length → (∀ k, k < sh.length ∨ k = j_sc → α' k = α k) → j_Wd D cA A α' sh' μ' s H' locs' → cells' ≤ R.cells → slots' ≤ R.slots →
      (r = none → decode cc pc' = .ok (.return_, 1) ∧ ret = none) → (∀ v, r = some v → decode cc pc' = .ok (.ireturn, 1) ∧ ∃ ty, ret = some ty ∧ narrow ty (.int v) = .int v) →
      W p l e R s m args below meth c H' locs' cells' slots' QF (F0 m pc' lr' (r.map Value.int).toList))
    (hr : va_Run p l e R s m args below meth c H locs cells slots mc1 ms1 (F0 m pc lr st0) (rest.map (j_rn α)) (j_Qe D cA α sh.length (va_A (j_w cA α sh μ) H.size) Q1 a) (va_A (j_w cA α sh μ) H.size)) :
    W p l e R s m args below meth c H locs cells slots QF (F0 m pc lr st0) := by
  obtain ⟨wK, wP, wD, wS, wA, wN⟩ := h2
  have hF : ∀ q, va_A (j_w cA α sh μ) H.size q → A q := by
    intro q hq
    rcases hq with ⟨k, x, hq⟩ | hq
    · exact wD.2 k (q, x) hq
    · exact wA q (Nat.le_trans wS.1 hq)
  intro T hT X
  obtain ⟨v, st₀, t, T', L, h0, X', hL, e1, e2, ⟨⟨r, sh', μ', α', hv, hq, hle, hα, hP1, hK1, hD1⟩, hz, hk⟩, st⟩ := hr T hT X
  rw [h0] at hz hk
  have hv' : v = r.map Value.int := by cases hv; rfl
  subst hv'
  have hrest : ((r.map Value.int).toList ++ rest).map (j_rn α') = (r.map Value.int).toList ++ rest.map (j_rn α) := by
    rw [List.map_append, j_map_ext h6 hα]
    cases r <;> rfl
  have hAl : s.vm.Alike t.vm := by rw [← e2]; exact X'.warmed.alike
  obtain ⟨t2, a1, b1⟩ := hK r sh' μ' hq p l e R s m args below meth c D cA A α' T'.heap (locs ++ L) (cells + mc1) (slots + ms1) lr QF h1
    ⟨va_K.moved hAl.symm hK1, by rw [e1]; exact hP1, hD1.weaken (fun k q _ h => hF q.1 h), ⟨Nat.le_trans wS.1 (by rw [e1]; exact hz), fun q g1 g2 => by
        rw [e1, hk q (Nat.lt_of_lt_of_le g1 wS.1) (fun z => g2 (hF q z))]
        exact wS.2.1 q g1 g2, fun q hq' => by
        rcases List.mem_append.mp hq' with h | h
        · exact wS.2.2 q h
        · exact hF _ (hL q h)⟩, wA, wN⟩
    (by omega) (by omega) (h5.ext hle hα)
    (by
      intro w hw
      rcases List.mem_append.mp hw with h | h
      · cases r with
        | none => cases h
        | some x =>
          rw [List.mem_singleton.mp h]
          intro k hk'
          cases hk'
      · exact j_okv_ext (h6 w h) hle)
    (by
      unfold j_Xs at h7 ⊢
      cases xs with
      | none => trivial
      | some q =>
        dsimp only at h7 ⊢
        rw [hα j_sc (Or.inr rfl)]
        exact h7)
    (by
      intro r2 sh2 μ2 α2 H2 locs2 cells2 slots2 lr2 pc2 g1 g2 g3
      exact h8 r2 sh2 μ2 α2 H2 locs2 cells2 slots2 lr2 pc2 g1 (Nat.le_trans hle g2) (fun k hk' => by
        rw [g3 k (hk'.elim (fun z => Or.inl (Nat.lt_of_lt_of_le z hle)) Or.inr)]
        exact hα k hk'))
    T' rfl X'
  refine ⟨t2, st t2 ?_, b1⟩
  rw [hrest] at a1
  exact a1
theorem j_pre {y : MethodName} {D : va_G} {cA : FieldType → ClassId} {A : Nat → Prop} {α : Nat → Nat} {sh : List j_S} {μ : j_M} {s : State} {H : Heap} {locs : List Loc} {as : List Value} (h2 : j_Wd D cA A α sh μ s H locs) : PreS s H (j_Pc D cA α sh μ as H.size) (as.map (j_rn α)) := by
  obtain ⟨wK, wP, wD, wS, wA, wN⟩ := h2
  refine ⟨j_blind, fun U hU hW => ⟨rfl, by rw [hU], by rw [hU]; exact wP, va_K.moved hW.alike wK, wD.weaken (fun _ _ _ _ => trivial), fun w hw => j_NW_warm hw hW (wN w hw)⟩⟩
theorem j_callB {R : Room} {s : State} {args : Array Value} {o idx n d mc ms : Nat} {y : MethodName} {cc : ByteArray} {maxL : Nat} {ret : Option FieldType} (hts : ∀ w ∈ j_G, w.before args s = true) (hc : Cond.code y cc maxL ret ∈ j_G) (hm : maxL ≤ 45) (hl : (Cond.methodLink (j_cn o) idx y) ∈ lw_tbl) (hi : Cond.initialized y.cls ∈ lw_tbl)
    (hd : y.cls ≠ "java/lang/invoke/MethodHandle" ∧ y.cls ≠ "java/lang/invoke/VarHandle" ∧ (parseMethodDescriptor y.desc).map (fun d => d.parameters.length) = some n) (hf : d + 1 ≤ R.frames) (hlo : 64 * (d + 1) + 16 ≤ R.locals) : CallB R s args (j_cn o) idx y cc maxL ret (.code y cc maxL ret :: j_G) (j_rm d mc ms) mc ms n :=
  callB_of n hts (j_wsG hc) rfl rfl rfl (hts _ (j_in hi rfl)) (hts _ (j_in hl rfl)) hd ⟨hf, by show 8 + (maxL + 11) + (64 * d + 16) ≤ _; omega⟩
/-- invokevirtual -/
theorem j_virtual {cc : ByteArray} {o nL : Nat} {ret : Option FieldType} {ini : Bool} {d : Nat} {xs : Option (Nat × (Nat → Int32))} {Q : j_Q} {sh : List j_S} {mc ms pc : Nat} {ls : j_L} {rest as : List Value} {μ : j_M} {y : MethodName} {n ci a idx : Nat} {ks : List j_K}
    (hd : decode cc pc = .ok (.invokevirtual idx, 3)) (hm : j_ml o idx = some (y, n, false, ci)) (ha : sh[a]? = some (.inr (ci, ks))) (hn : as.length = n) (hst : (rest.map fun v => v.category).sum ≤ 8)
    (hX : j_X d mc ms y sh (.ref a :: as) μ (fun mc ms r sh' μ' => j_J cc o nL ret ini d xs Q sh' mc ms (pc + 3) ls ((r.map Value.int).toList ++ rest) μ')) : j_J cc o nL ret ini d xs Q sh mc ms pc ls (as.reverse ++ .ref a :: rest) μ := by
  intro p l e R s m args below meth c D cA A α H locs cells slots lr QF h1 h2 h3 h4 h5 h6 h7 h8
  obtain ⟨d1, mc1, ms1, Q1, hd1, hmc, hms, ⟨cc1, maxL, ret1, hcode, hmax, hMet⟩, hK⟩ := hX
  obtain ⟨m1, m2, m3, m4, m5, m6, m7, m8⟩ := j_ml_ok hm
  have hok : ∀ v ∈ (Value.ref a :: as), j_okv sh.length v := by
    intro v hv
    refine h6 v ?_
    rcases List.mem_cons.mp hv with rfl | hv
    · exact List.mem_append_right _ List.mem_cons_self
    · exact List.mem_append_left _ (List.mem_reverse.mpr hv)
  have hM := hMet hok l D cA α H.size
  have hts := h1.2.2.2.2.2.2.2.1
  have hcl : j_cn ci = y.cls := m7
  have hr := va_runV (p := p) (l := l) (e := e) (R := R) (s := s) (m := m) (args := args) (below := below) (meth := meth) (c := c) (H := H) (locs := locs) (cells := cells) (slots := slots) (C := y.cls) (As := as.map (j_rn α)) (rest := rest.map (j_rn α)) (b := α a) (g := F0 m pc lr ((as.reverse ++ .ref a :: rest).map (j_rn α)))
    ⟨h1.1, h1.2.1, h1.2.2.1, h1.2.2.2.2.2.2.1, hts⟩ hM ⟨j_callB hts hcode hmax m1 m4 ⟨m5, m6, m8⟩ (Nat.le_trans hd1 h1.2.2.2.2.2.2.2.2.1) (Nat.le_trans (by omega) h1.2.2.2.2.2.2.2.2.2), hts _ (j_in m2 rfl), hts _ (j_in m3 rfl)⟩
    ⟨j_blind, by rw [← hcl]; exact j_recv h2.1 h2.2.1 ha, (j_pre (y := y) (as := .ref a :: as) h2).2⟩ rfl (by rw [List.length_map]; exact hn) h5.1 (by simp [List.map_append, List.map_reverse, j_rn]) (by
      show 2 * 0 + _ ≤ 8
      rw [List.map_map]
      have he : (rest.map ((fun v => v.category) ∘ j_rn α)) = rest.map fun v => v.category := List.map_congr_left fun v _ => j_rn_cat α v
      rw [he]
      omega) hd ⟨by omega, by omega⟩
  exact j_after hmc hms hK h1 h2 h3 h4 h5 (fun v hv => h6 v (List.mem_append_right _ (List.mem_cons_of_mem _ hv))) h7 h8 hr
/-- invokestatic -/
theorem j_static {cc : ByteArray} {o nL : Nat} {ret : Option FieldType} {ini : Bool} {d : Nat} {xs : Option (Nat × (Nat → Int32))} {Q : j_Q} {sh : List j_S} {mc ms pc : Nat} {ls : j_L} {rest as : List Value} {μ : j_M} {y : MethodName} {n ci idx : Nat}
    (hd : decode cc pc = .ok (.invokestatic idx, 3)) (hm : j_ml o idx = some (y, n, true, ci)) (hn : as.length = n) (hst : (rest.map fun v => v.category).sum ≤ 8)
    (hX : j_X d mc ms y sh as μ (fun mc ms r sh' μ' => j_J cc o nL ret ini d xs Q sh' mc ms (pc + 3) ls ((r.map Value.int).toList ++ rest) μ')) : j_J cc o nL ret ini d xs Q sh mc ms pc ls (as.reverse ++ rest) μ := by
  intro p l e R s m args below meth c D cA A α H locs cells slots lr QF h1 h2 h3 h4 h5 h6 h7 h8
  obtain ⟨d1, mc1, ms1, Q1, hd1, hmc, hms, ⟨cc1, maxL, ret1, hcode, hmax, hMet⟩, hK⟩ := hX
  obtain ⟨m1, m2, m3, m4, m5, m6, m7, m8⟩ := j_ml_ok hm
  have hok : ∀ v ∈ as, j_okv sh.length v := fun v hv => h6 v (List.mem_append_left _ (List.mem_reverse.mpr hv))
  have hM := hMet hok l D cA α H.size
  have hts := h1.2.2.2.2.2.2.2.1
  have hr := va_runS (p := p) (l := l) (e := e) (R := R) (s := s) (m := m) (args := args) (below := below) (meth := meth) (c := c) (H := H) (locs := locs) (cells := cells) (slots := slots) (As := as.map (j_rn α)) (rest := rest.map (j_rn α)) (g := F0 m pc lr ((as.reverse ++ rest).map (j_rn α)))
    ⟨h1.1, h1.2.1, h1.2.2.1, h1.2.2.2.2.2.2.1, hts⟩ hM ⟨j_callB hts hcode hmax m1 m4 ⟨m5, m6, m8⟩ (Nat.le_trans hd1 h1.2.2.2.2.2.2.2.2.1) (Nat.le_trans (by omega) h1.2.2.2.2.2.2.2.2.2), hts _ (j_in m2 rfl)⟩
    (j_pre (y := y) (as := as) h2) rfl (by rw [List.length_map]; exact hn) h5.1 (by simp [List.map_append, List.map_reverse]) (by
      show 2 * 0 + _ ≤ 8
      rw [List.map_map]
      have he : (rest.map ((fun v => v.category) ∘ j_rn α)) = rest.map fun v => v.category := List.map_congr_left fun v _ => j_rn_cat α v
      rw [he]
      omega) hd ⟨by omega, by omega⟩
  exact j_after hmc hms hK h1 h2 h3 h4 h5 (fun v hv => h6 v (List.mem_append_right _ hv)) h7 h8 hr
end
section
/-! what one instruction asks -/
def j_pi (st : List Value) (k : Int32 → List Value → Prop) : Prop := match st with
  | .int x :: st => k x st
  | _ => False
def j_pii (st : List Value) (k : Int32 → Int32 → List Value → Prop) : Prop := match st with
  | .int y :: .int x :: st => k x y st
  | _ => False
def j_pl (st : List Value) (k : Int64 → List Value → Prop) : Prop := match st with
  | .long x :: st => k x st
  | _ => False
def j_pll (st : List Value) (k : Int64 → Int64 → List Value → Prop) : Prop := match st with
  | .long y :: .long x :: st => k x y st
  | _ => False
def j_pli (st : List Value) (k : Int64 → Int32 → List Value → Prop) : Prop := match st with
  | .int y :: .long x :: st => k x y st
  | _ => False
def j_pr (st : List Value) (k : Nat → List Value → Prop) : Prop := match st with
  | .ref a :: st => k a st
  | _ => False
def j_pri (st : List Value) (k : Nat → Int32 → List Value → Prop) : Prop := match st with
  | .int i :: .ref a :: st => k a i st
  | _ => False
def j_prii (st : List Value) (k : Nat → Int32 → Int32 → List Value → Prop) : Prop := match st with
  | .int x :: .int i :: .ref a :: st => k a i x st
  | _ => False
def j_pvr (st : List Value) (ki : Nat → Int32 → List Value → Prop) (kr : Nat → Nat → List Value → Prop) : Prop := match st with
  | .int x :: .ref a :: st => ki a x st
  | .ref r :: .ref a :: st => kr a r st
  | _ => False
def j_pop : Nat → List Value → List Value → (List Value → List Value → Prop) → Prop
  | 0, as, st, k => k as st
  | n + 1, as, v :: st, k => j_pop n (v :: as) st k
  | _ + 1, _, [], _ => False
def j_gi (x : Option Value) (k : Int32 → Prop) : Prop := match x with
  | some (.int v) => k v
  | _ => False
def j_gl (x : Option Value) (k : Int64 → Prop) : Prop := match x with
  | some (.long v) => k v
  | _ => False
def j_ga (x : Option Value) (k : Nat → Prop) : Prop := match x with
  | some (.ref v) => k v
  | _ => False
def j_ob (s : Option j_S) (k : Nat → List j_K → Prop) : Prop := match s with
  | some (.inr (ci, ks)) => k ci ks
  | _ => False
def j_ar (s : Option j_S) (k : FieldType → Nat → Prop) : Prop := match s with
  | some (.inl (ty, n)) => k ty n
  | _ => False
def j_fd (s : Option j_K) (ki : Prop) (kv : Prop) (kn : Prop) (kr : Nat → Prop) : Prop := match s with
  | some none => ki
  | some (some none) => kv
  | some (some (some none)) => kn
  | some (some (some (some r))) => kr r
  | none => False
def j_fo (s : Option (Nat × Nat × Bool)) (k : Nat → Nat → Bool → Prop) : Prop := match s with
  | some (ci, f, b) => k ci f b
  | none => False
def j_mo (s : Option (MethodName × Nat × Bool × Nat)) (k : MethodName → Nat → Bool → Nat → Prop) : Prop := match s with
  | some (y, n, b, ci) => k y n b ci
  | none => False
def j_br (c : ClassFile.Cond) (x y : Int32) (A B : Prop) : Prop := match c with
  | .eq => (x = y → A) ∧ (¬ x = y → B)
  | .ne => (¬ x = y → A) ∧ (x = y → B)
  | .lt => (x < y → A) ∧ (y ≤ x → B)
  | .ge => (y ≤ x → A) ∧ (x < y → B)
  | .gt => (y < x → A) ∧ (x ≤ y → B)
  | .le => (x ≤ y → A) ∧ (y < x → B)
def j_to (pc : Nat) (off : Int) (k : Nat → Prop) : Prop := 0 ≤ (pc : Int) + off ∧ k ((pc : Int) + off).toNat
def j_tab (x : Int32) (k : Int → Prop) : List Int → Int → Prop
  | [], _ => True
  | o :: os, lo => (x.toInt = lo → k o) ∧ j_tab x k os (lo + 1)
def j_lku (x : Int32) (dflt : Int) (k : Int → Prop) : List (Int × Int) → Prop
  | [] => k dflt
  | (a, o) :: r => (x.toInt = a → k o) ∧ (¬ x.toInt = a → j_lku x dflt k r)
/-- what a field or a boolean method's answer may be -/
def j_nf (ty : FieldType) (x : Int32) : Prop := match ty with
  | .int => True
  | .boolean => x = 0 ∨ x = 1
  | .char => 0 ≤ x ∧ x ≤ 65535
  | _ => False
def j_rt (ret : Option FieldType) (x : Int32) : Prop := match ret with
  | some ty => j_nf ty x
  | none => False
def j_lo (s : Option Int64) (k : Int64 → Prop) : Prop := match s with
  | some x => k x
  | none => False
def j_min (o i : Nat) : Bool := (o == 9 && i == 271) || (o == 7 && i == 55)
def j_acp (o i : Nat) : Bool := o == 6 && i == 36
def j_co (s : Option (Nat × Nat)) (k : Nat → Nat → Prop) : Prop := match s with
  | some (ci, n) => k ci n
  | none => False
def j_no (s : Option (MethodName × Bool)) (k : MethodName → Prop) : Prop := match s with
  | some (y, _) => k y
  | none => False
/-- the kind of a field of this type in a new object -/
def j_k00 (ty : FieldType) : j_K := match ty with
  | .object _ => some (some none)
  | .array _ => some (some none)
  | _ => none
def j_k0 (ci N : Nat) : List j_K := (List.range N).map (fun k => j_k00 (j_ty ci k))
def j_scr (xs : Option (Nat × (Nat → Int32))) (k : Nat → (Nat → Int32) → Prop) : Prop := match xs with
  | some (L, f) => k L f
  | none => False
def j_at (t : ArrayType) : FieldType := match t with
  | .boolean => .boolean
  | .char => .char
  | .float => .float
  | .double => .double
  | .byte => .byte
  | .short => .short
  | .int => .int
  | .long => .long
def j_wp (o : Nat) (ret : Option FieldType) (ini : Bool) (d : Nat) (xs : Option (Nat × (Nat → Int32))) (Q : j_Q) (i : Instr) (len : Nat) (sh : List j_S) (mc ms pc : Nat) (ls : j_L) (st : List Value) (μ : j_M) (K : List j_S → Nat → Nat → Nat → j_L → List Value → j_M → Prop) : Prop := match i with
  | .iconst n => len = 1 ∧ K sh mc ms (pc + 1) ls (.int (Int32.ofInt n) :: st) μ
  | .bipush n => len = 2 ∧ K sh mc ms (pc + 2) ls (.int (Int8.ofInt n).toInt32 :: st) μ
  | .sipush n => len = 3 ∧ K sh mc ms (pc + 3) ls (.int (Int16.ofInt n).toInt32 :: st) μ
  | .ldc2_w n => len = 3 ∧ j_lo (j_long o n) fun x => K sh mc ms (pc + 3) ls (.long x :: st) μ
  | .iload n => len = 2 ∧ j_gi (j_ld ls n) fun x => K sh mc ms (pc + 2) ls (.int x :: st) μ
  | .iload_n n => len = 1 ∧ j_gi (j_ld ls n.val) fun x => K sh mc ms (pc + 1) ls (.int x :: st) μ
  | .lload n => len = 2 ∧ j_gl (j_ld ls n) fun x => K sh mc ms (pc + 2) ls (.long x :: st) μ
  | .lload_n n => len = 1 ∧ j_gl (j_ld ls n.val) fun x => K sh mc ms (pc + 1) ls (.long x :: st) μ
  | .aload n => len = 2 ∧ j_ga (j_ld ls n) fun x => K sh mc ms (pc + 2) ls (.ref x :: st) μ
  | .aload_n n => len = 1 ∧ j_ga (j_ld ls n.val) fun x => K sh mc ms (pc + 1) ls (.ref x :: st) μ
  | .istore n => len = 2 ∧ n < ls.length ∧ j_pi st fun x st => K sh mc ms (pc + 2) (j_st1 ls n (.int x)) st μ
  | .istore_n n => len = 1 ∧ n.val < ls.length ∧ j_pi st fun x st => K sh mc ms (pc + 1) (j_st1 ls n.val (.int x)) st μ
  | .astore n => len = 2 ∧ n < ls.length ∧ j_pr st fun x st => K sh mc ms (pc + 2) (j_st1 ls n (.ref x)) st μ
  | .astore_n n => len = 1 ∧ n.val < ls.length ∧ j_pr st fun x st => K sh mc ms (pc + 1) (j_st1 ls n.val (.ref x)) st μ
  | .lstore n => len = 2 ∧ n + 1 < ls.length ∧ j_pl st fun x st => K sh mc ms (pc + 2) (j_st2 ls n (.long x)) st μ
  | .iinc n k => len = 3 ∧ j_gi (j_ld ls n) fun x => K sh mc ms (pc + 3) (j_st1 ls n (.int (x + Int32.ofInt k))) st μ
  | .iadd => len = 1 ∧ j_pii st fun x y st => K sh mc ms (pc + 1) ls (.int (x + y) :: st) μ
  | .isub => len = 1 ∧ j_pii st fun x y st => K sh mc ms (pc + 1) ls (.int (x - y) :: st) μ
  | .imul => len = 1 ∧ j_pii st fun x y st => K sh mc ms (pc + 1) ls (.int (x * y) :: st) μ
  | .idiv => len = 1 ∧ j_pii st fun x y st => ¬ y = 0 ∧ K sh mc ms (pc + 1) ls (.int (x / y) :: st) μ
  | .iand => len = 1 ∧ j_pii st fun x y st => K sh mc ms (pc + 1) ls (.int (x &&& y) :: st) μ
  | .ior => len = 1 ∧ j_pii st fun x y st => K sh mc ms (pc + 1) ls (.int (x ||| y) :: st) μ
  | .ishl => len = 1 ∧ j_pii st fun x y st => K sh mc ms (pc + 1) ls (.int (x <<< (y &&& 31)) :: st) μ
  | .ishr => len = 1 ∧ j_pii st fun x y st => K sh mc ms (pc + 1) ls (.int (x >>> (y &&& 31)) :: st) μ
  | .iushr => len = 1 ∧ j_pii st fun x y st => K sh mc ms (pc + 1) ls (.int (x.toUInt32 >>> (y.toUInt32 &&& Int32.toUInt32 31)).toInt32 :: st) μ
  | .ladd => len = 1 ∧ j_pll st fun x y st => K sh mc ms (pc + 1) ls (.long (x + y) :: st) μ
  | .lmul => len = 1 ∧ j_pll st fun x y st => K sh mc ms (pc + 1) ls (.long (x * y) :: st) μ
  | .lrem => len = 1 ∧ j_pll st fun x y st => ¬ y = 0 ∧ K sh mc ms (pc + 1) ls (.long (x - x / y * y) :: st) μ
  | .land => len = 1 ∧ j_pll st fun x y st => K sh mc ms (pc + 1) ls (.long (x &&& y) :: st) μ
  | .lor => len = 1 ∧ j_pll st fun x y st => K sh mc ms (pc + 1) ls (.long (x ||| y) :: st) μ
  | .lushr => len = 1 ∧ j_pli st fun x y st => K sh mc ms (pc + 1) ls (.long (x.toUInt64 >>> (y.toInt64.toUInt64 &&& Int64.toUInt64 63)).toInt64 :: st) μ
  | .lshl => len = 1 ∧ j_pli st fun x y st => K sh mc ms (pc + 1) ls (.long (x <<< (y.toInt64 &&& 63)) :: st) μ
  | .lcmp => len = 1 ∧ j_pll st fun x y st => K sh mc ms (pc + 1) ls (.int (lg_cmp x y) :: st) μ
  | .i2l => len = 1 ∧ j_pi st fun x st => K sh mc ms (pc + 1) ls (.long x.toInt64 :: st) μ
  | .l2i => len = 1 ∧ j_pl st fun x st => K sh mc ms (pc + 1) ls (.int x.toInt32 :: st) μ
  | .i2b => len = 1 ∧ j_pi st fun x st => K sh mc ms (pc + 1) ls (.int x.toInt8.toInt32 :: st) μ
  | .i2c => len = 1 ∧ j_pi st fun x st => K sh mc ms (pc + 1) ls (.int (x.toUInt32 % 65536).toInt32 :: st) μ
  | .dup => len = 1 ∧ match st with
    | .int x :: st => K sh mc ms (pc + 1) ls (.int x :: .int x :: st) μ
    | .ref x :: st => K sh mc ms (pc + 1) ls (.ref x :: .ref x :: st) μ
    | _ => False
  | .dup2 => len = 1 ∧ j_pri st fun a i st => K sh mc ms (pc + 1) ls (.int i :: .ref a :: .int i :: .ref a :: st) μ
  | .goto off => len = 3 ∧ j_to pc off fun t => K sh mc ms t ls st μ
  | .ifCond c off => len = 3 ∧ j_pi st fun x st => j_to pc off fun t => j_br c x 0 (K sh mc ms t ls st μ) (K sh mc ms (pc + 3) ls st μ)
  | .if_icmp c off => len = 3 ∧ j_pii st fun x y st => j_to pc off fun t => j_br c x y (K sh mc ms t ls st μ) (K sh mc ms (pc + 3) ls st μ)
  | .tableswitch dflt lo hi offs => offs.toList.length = (hi - lo + 1).toNat ∧ j_pi st fun x st => (x.toInt < lo ∨ hi < x.toInt → j_to pc dflt fun t => K sh mc ms t ls st μ) ∧ j_tab x (fun off => j_to pc off fun t => K sh mc ms t ls st μ) offs.toList lo
  | .lookupswitch dflt ps => (ps.toList.zip (ps.toList.drop 1)).all (fun (a, next) => a.1 < next.1) = true ∧ j_pi st fun x st => j_lku x dflt (fun off => j_to pc off fun t => K sh mc ms t ls st μ) ps.toList
  | .getfield n => len = 3 ∧ j_fo (j_fl o n) fun ci f _ => j_pr st fun a st => j_ob sh[a]? fun ci' ks => ci' = ci ∧ j_fd ks[f]? (K sh mc ms (pc + 3) ls (.int (μ a f) :: st) μ) ((μ a f).toNatClampNeg < sh.length ∧ K sh mc ms (pc + 3) ls (.ref (μ a f).toNatClampNeg :: st) μ) False (fun r => r < sh.length ∧ K sh mc ms (pc + 3) ls (.ref r :: st) μ)
  | .putfield n => len = 3 ∧ j_fo (j_fl o n) fun ci f b => j_pvr st
      (fun a x st => j_ob sh[a]? fun ci' ks => ci' = ci ∧ b = false ∧ j_nf (j_ty ci f) x ∧ j_fd ks[f]? (K sh mc ms (pc + 3) ls st (j_up μ a f x)) False False (fun _ => False))
      (fun a r st => j_ob sh[a]? fun ci' ks => ci' = ci ∧ r < sh.length ∧ fits (j_ty ci f) (.ref r) = true ∧ if b = true then ini = true ∧ ci = o ∧ j_fd ks[f]? False False (K (sh.set a (.inr (ci, ks.set f (some (some (some r)))))) mc ms (pc + 3) ls st μ) (fun _ => False)
        else r < 2147483648 ∧ j_fd ks[f]? False (K sh mc ms (pc + 3) ls st (j_up μ a f (nI r))) (K (sh.set a (.inr (ci, ks.set f (some none)))) mc ms (pc + 3) ls st (j_up μ a f (nI r))) (fun _ => False))
  | .iaload => len = 1 ∧ j_pri st fun a i st => if a = j_sc then j_scr xs fun L f => vp_in i L ∧ K sh mc ms (pc + 1) ls (.int (f i.toNatClampNeg) :: st) μ else j_ar sh[a]? fun ty n => ty = .int ∧ vp_in i n ∧ K sh mc ms (pc + 1) ls (.int (μ a i.toNatClampNeg) :: st) μ
  | .baload => len = 1 ∧ j_pri st fun a i st => j_ar sh[a]? fun ty n => (ty = .byte ∨ ty = .boolean) ∧ vp_in i n ∧ K sh mc ms (pc + 1) ls (.int (μ a i.toNatClampNeg) :: st) μ
  | .caload => len = 1 ∧ j_pri st fun a i st => j_ar sh[a]? fun ty n => ty = .char ∧ vp_in i n ∧ K sh mc ms (pc + 1) ls (.int (μ a i.toNatClampNeg) :: st) μ
  | .laload => len = 1 ∧ j_pri st fun a i st => j_ar sh[a]? fun ty n => ty = .long ∧ vp_in i n ∧ K sh mc ms (pc + 1) ls (.long (μ a i.toNatClampNeg).toInt64 :: st) μ
  | .iastore => len = 1 ∧ j_prii st fun a i x st => j_ar sh[a]? fun ty n => ty = .int ∧ vp_in i n ∧ K sh mc ms (pc + 1) ls st (j_up μ a i.toNatClampNeg x)
  | .bastore => len = 1 ∧ j_prii st fun a i x st => j_ar sh[a]? fun ty n => vp_in i n ∧ (ty = .byte → K sh mc ms (pc + 1) ls st (j_up μ a i.toNatClampNeg (vp_nar .byte x))) ∧ (ty = .boolean → K sh mc ms (pc + 1) ls st (j_up μ a i.toNatClampNeg (vp_nar .boolean x))) ∧ (ty = .byte ∨ ty = .boolean)
  | .castore => len = 1 ∧ j_prii st fun a i x st => j_ar sh[a]? fun ty n => ty = .char ∧ vp_in i n ∧ K sh mc ms (pc + 1) ls st (j_up μ a i.toNatClampNeg (vp_nar .char x))
  | .arraylength => len = 1 ∧ j_pr st fun a st => if a = j_sc then j_scr xs fun L _ => K sh mc ms (pc + 1) ls (.int (nI L) :: st) μ else j_ar sh[a]? fun ty n => (ty = .int ∨ ty = .char ∨ ty = .byte ∨ ty = .boolean) ∧ K sh mc ms (pc + 1) ls (.int (nI n) :: st) μ
  | .newarray t => len = 2 ∧ j_pi st fun n st => ¬ n < 0 ∧ n.toNatClampNeg ≤ 1000000 ∧ 1 ≤ mc ∧ n.toNatClampNeg ≤ ms ∧ sh.length < j_sc ∧ j_okr sh.length sh μ ∧ (t = .int ∨ t = .char ∨ t = .byte ∨ t = .boolean ∨ t = .long) ∧ K (sh ++ [.inl (j_at t, n.toNatClampNeg)]) (mc - 1) (ms - n.toNatClampNeg) (pc + 2) ls (.ref sh.length :: st) (j_row μ sh.length (fun _ => 0))
  | .invokevirtual n => len = 3 ∧ j_mo (j_ml o n) fun y k b ci => b = false ∧ j_pop k [] st fun as st => j_pr st fun a st => j_ob sh[a]? fun ci' _ => ci' = ci ∧ (st.map fun v => v.category).sum ≤ 8 ∧ j_X d mc ms y sh (.ref a :: as) μ (fun mc ms r sh' μ' => K sh' mc ms (pc + 3) ls ((r.map Value.int).toList ++ st) μ')
  | .invokestatic n => len = 3 ∧ if j_min o n = true then 1 ≤ d ∧ j_pii st fun x y st => (st.map fun v => v.category).sum ≤ 8 ∧ K sh mc ms (pc + 3) ls (.int (if y < x then y else x) :: st) μ
      else if j_acp o n = true then 1 ≤ d ∧ match st with
        | .int k :: .int dp :: .ref a :: .int sp :: .ref a0 :: st => st = [] ∧ ¬ sp < 0 ∧ ¬ dp < 0 ∧ ¬ k < 0 ∧ j_ar sh[a0]? (fun ty n0 => ty = .char ∧ sp.toNatClampNeg + k.toNatClampNeg ≤ n0) ∧ j_ar sh[a]? (fun ty n1 => ty = .char ∧ dp.toNatClampNeg + k.toNatClampNeg ≤ n1) ∧ (∀ i, i < k.toNatClampNeg → fits .char (.int (μ a0 (sp.toNatClampNeg + i))) = true) ∧ K sh mc ms (pc + 3) ls [] (j_row μ a (va_cpy (μ a0) (μ a) sp.toNatClampNeg dp.toNatClampNeg k.toNatClampNeg))
        | _ => False
      else j_mo (j_ml o n) fun y k b _ => b = true ∧ j_pop k [] st fun as st => (st.map fun v => v.category).sum ≤ 8 ∧ j_X d mc ms y sh as μ (fun mc ms r sh' μ' => K sh' mc ms (pc + 3) ls ((r.map Value.int).toList ++ st) μ')
  | .new n => len = 3 ∧ j_co (j_cl o n) fun ci N => 1 ≤ mc ∧ N ≤ ms ∧ sh.length < j_sc ∧ j_okr sh.length sh μ ∧ K (sh ++ [.inr (ci, j_k0 ci N)]) (mc - 1) (ms - N) (pc + 3) ls (.ref sh.length :: st) (j_row μ sh.length (fun _ => 0))
  | .invokespecial n => len = 3 ∧ j_pr st fun a st => (st.map fun v => v.category).sum ≤ 8 ∧ if j_oi o n = true then 1 ≤ d ∧ K sh mc ms (pc + 3) ls st μ
      else j_no (j_nl o n) fun y => j_X d mc ms y sh [.ref a] μ (fun mc ms r sh' μ' => K sh' mc ms (pc + 3) ls ((r.map Value.int).toList ++ st) μ')
  | .ireturn => len = 1 ∧ match st with
    | [.int v] => j_rt ret v ∧ Q (some v) sh μ
    | _ => False
  | .return_ => len = 1 ∧ ret = none ∧ st = [] ∧ Q none sh μ
  | _ => False
end
section
/-! one instruction, soundly -/
theorem j_nf_ok {ty : FieldType} {x : Int32} (h : j_nf ty x) : narrow ty (.int x) = .int x ∧ fits ty (.int x) = true := by
  unfold j_nf at h
  split at h
  · exact ⟨rfl, rfl⟩
  · rcases h with rfl | rfl
    · decide
    · decide
  · obtain ⟨a, b⟩ := h
    have h0 : 0 ≤ x.toInt := by simpa [Int32.le_iff_toInt_le] using a
    have h1 : x.toInt ≤ 65535 := by simpa [Int32.le_iff_toInt_le] using b
    obtain ⟨k, hk, rfl⟩ := nI_of (x := x) (by rw [Int32.lt_iff_toInt_lt]; simpa using h0)
    rw [nI_toInt hk] at h1
    exact pk_charN (by omega)
  · exact h.elim
theorem j_ok_i {n : Nat} {x : Int32} {st : List Value} (h : ∀ v ∈ st, j_okv n v) : ∀ v ∈ (Value.int x :: st), j_okv n v := fun v hv => (List.mem_cons.mp hv).elim (fun e => by subst e; intro k hk; cases hk) (h v)
theorem j_ok_l {n : Nat} {x : Int64} {st : List Value} (h : ∀ v ∈ st, j_okv n v) : ∀ v ∈ (Value.long x :: st), j_okv n v := fun v hv => (List.mem_cons.mp hv).elim (fun e => by subst e; intro k hk; cases hk) (h v)
theorem j_ok_r {n a : Nat} {st : List Value} (ha : a < n ∨ a = j_sc) (h : ∀ v ∈ st, j_okv n v) : ∀ v ∈ (Value.ref a :: st), j_okv n v := fun v hv => (List.mem_cons.mp hv).elim (fun e => by subst e; intro k hk; cases hk; exact ha) (h v)
theorem j_ok_t {n : Nat} {x : Value} {st : List Value} (h : ∀ v ∈ (x :: st), j_okv n v) : ∀ v ∈ st, j_okv n v := fun v hv => h v (List.mem_cons_of_mem _ hv)
theorem j_ok_h {n a : Nat} {st : List Value} (h : ∀ v ∈ (Value.ref a :: st), j_okv n v) : a < n ∨ a = j_sc := h _ List.mem_cons_self a rfl
theorem j_iok {n : Nat} (x : Int32) : j_okv n (.int x) := fun _ h => by cases h
theorem j_lok {n : Nat} (x : Int64) : j_okv n (.long x) := fun _ h => by cases h
theorem j_tab_get {x : Int32} {k : Int → Prop} : ∀ (os : List Int) (lo : Int), j_tab x k os lo → ∀ (j : Nat) (off : Int), os[j]? = some off → x.toInt = lo + j → k off
  | [], _, _, j, off, h, _ => by simp at h
  | o :: os, lo, h, j, off, hj, e => by
    cases j with
    | zero =>
      simp only [List.getElem?_cons_zero, Option.some.injEq] at hj
      subst hj
      exact h.1 (by omega)
    | succ j =>
      simp only [List.getElem?_cons_succ] at hj
      exact j_tab_get os (lo + 1) h.2 j off hj (by omega)
theorem j_lku_get {x : Int32} {dflt : Int} {k : Int → Prop} : ∀ (ps : List (Int × Int)), j_lku x dflt k ps → k (Op.lookupswitch.offset ps dflt x.toInt)
  | [], h => h
  | (a, o) :: r, h => by
    rw [Op.lookupswitch.offset_cons]
    by_cases e : x.toInt = a
    · have e' : a = x.toInt := e.symm
      first
        | (rw [if_pos e]; exact h.1 e)
        | (rw [if_pos e']; exact h.1 e)
        | (simp only [e, if_true, beq_self_eq_true]; exact h.1 e)
    · have e' : ¬ a = x.toInt := fun z => e z.symm
      first
        | (rw [if_neg e]; exact j_lku_get r (h.2 e))
        | (rw [if_neg e']; exact j_lku_get r (h.2 e))
        | (simp only [e, e', if_false, beq_iff_eq]; exact j_lku_get r (h.2 e))
section JS
variable {cc : ByteArray} {o nL : Nat} {ret : Option FieldType} {ini : Bool} {d : Nat} {xs : Option (Nat × (Nat → Int32))} {Q : j_Q} {sh : List j_S} {mc ms pc : Nat} {ls : j_L} {st : List Value} {μ : j_M}
/-- a step that moves neither the heap nor the world -/
def j_Go (cc : ByteArray) (o nL : Nat) (ret : Option FieldType) (ini : Bool) (d : Nat) (xs : Option (Nat × (Nat → Int32))) (Q : j_Q) (sh : List j_S) (mc ms : Nat) (μ : j_M) (pc : Nat) (ls : j_L) (st : List Value) : Prop :=
  ∀ (p : Program) (l : Launch) (e : Env) (R : Room) (s : State) (m : MethodId) (args : Array Value) (below : List Frame) (meth : Method) (c : Code) (α : Nat → Nat) (A : Nat → Prop) (H : Heap) (locs : List Loc) (cells slots : Nat) (lr : Array Slot) (QF : State → Prop),
    j_Ctx cc o nL ret ini d p R s m args meth c → cells + mc ≤ R.cells → slots + ms ≤ R.slots → j_Lr α sh.length nL ls lr → (∀ v ∈ st, j_okv sh.length v) → j_Xs xs α A s → va_S A s.heap H locs →
    (∀ (pc' : Nat) (ls' : j_L) (st' : List Value) (lr' : Array Slot), j_J cc o nL ret ini d xs Q sh mc ms pc' ls' st' μ → j_Lr α sh.length nL ls' lr' → (∀ v ∈ st', j_okv sh.length v) → W p l e R s m args below meth c H locs cells slots QF (F0 m pc' lr' (st'.map (j_rn α)))) →
    W p l e R s m args below meth c H locs cells slots QF (F0 m pc lr (st.map (j_rn α)))
theorem j_Go.use (h : j_Go cc o nL ret ini d xs Q sh mc ms μ pc ls st) : j_J cc o nL ret ini d xs Q sh mc ms pc ls st μ := by
  intro p l e R s m args below meth c D cA A α H locs cells slots lr QF h1 h2 h3 h4 h5 h6 h7 h8
  exact h p l e R s m args below meth c α A H locs cells slots lr QF h1 h3 h4 h5 h6 h7 h2.2.2.2.1 (fun pc' ls' st' lr' hj a5 a6 => hj p l e R s m args below meth c D cA A α H locs cells slots lr' QF h1 h2 h3 h4 a5 a6 h7 h8)
theorem js_iconst {n : Int} (hd : decode cc pc = .ok (.iconst n, 1)) (h : j_J cc o nL ret ini d xs Q sh mc ms (pc + 1) ls (.int (Int32.ofInt n) :: st) μ) : j_J cc o nL ret ini d xs Q sh mc ms pc ls st μ := by
  refine j_Go.use ?_
  intro p l e R s m args below meth c α A H locs cells slots lr QF h1 h3 h4 h5 h6 h7 hS kk
  exact lv_iconst h1.1 h1.2.1 hd rfl (kk _ ls (.int (Int32.ofInt n) :: st) lr h h5 (j_ok_i h6))
theorem js_bipush {n : Int} (hd : decode cc pc = .ok (.bipush n, 2)) (h : j_J cc o nL ret ini d xs Q sh mc ms (pc + 2) ls (.int ((Int8.ofInt n).toInt32) :: st) μ) : j_J cc o nL ret ini d xs Q sh mc ms pc ls st μ := by
  refine j_Go.use ?_
  intro p l e R s m args below meth c α A H locs cells slots lr QF h1 h3 h4 h5 h6 h7 hS kk
  exact lv_bipush h1.1 h1.2.1 hd rfl (kk _ ls (.int ((Int8.ofInt n).toInt32) :: st) lr h h5 (j_ok_i h6))
theorem js_sipush {n : Int} (hd : decode cc pc = .ok (.sipush n, 3)) (h : j_J cc o nL ret ini d xs Q sh mc ms (pc + 3) ls (.int ((Int16.ofInt n).toInt32) :: st) μ) : j_J cc o nL ret ini d xs Q sh mc ms pc ls st μ := by
  refine j_Go.use ?_
  intro p l e R s m args below meth c α A H locs cells slots lr QF h1 h3 h4 h5 h6 h7 hS kk
  exact lv_sipush h1.1 h1.2.1 hd rfl (kk _ ls (.int ((Int16.ofInt n).toInt32) :: st) lr h h5 (j_ok_i h6))
theorem js_ldc2 {n : Nat} {x : Int64} (hx : j_long o n = some x) (hd : decode cc pc = .ok (.ldc2_w n, 3)) (h : j_J cc o nL ret ini d xs Q sh mc ms (pc + 3) ls (.long x :: st) μ) : j_J cc o nL ret ini d xs Q sh mc ms pc ls st μ := by
  refine j_Go.use ?_
  intro p l e R s m args below meth c α A H locs cells slots lr QF h1 h3 h4 h5 h6 h7 hS kk
  exact lv_ldc2 h1.1 h1.2.1 h1.2.2.2.2.2.2.1 (h1.2.2.2.2.2.2.2.1 _ (j_in (j_long_ok hx) rfl)) hd (kk _ ls (.long x :: st) lr h h5 (j_ok_l h6))
theorem js_iload {n : Nat} {x : Int32} (hx : j_ld ls n = some (.int x)) (hd : decode cc pc = .ok (.iload n, 2)) (h : j_J cc o nL ret ini d xs Q sh mc ms (pc + 2) ls (.int x :: st) μ) : j_J cc o nL ret ini d xs Q sh mc ms pc ls st μ := by
  refine j_Go.use ?_
  intro p l e R s m args below meth c α A H locs cells slots lr QF h1 h3 h4 h5 h6 h7 hS kk
  obtain ⟨hv, ho⟩ := h5.get hx
  exact lv_iload h1.1 h1.2.1 hd hv (kk _ ls (.int x :: st) lr h h5 (j_ok_i h6))
theorem js_iload_n {n : Fin 4} {x : Int32} (hx : j_ld ls n.val = some (.int x)) (hd : decode cc pc = .ok (.iload_n n, 1)) (h : j_J cc o nL ret ini d xs Q sh mc ms (pc + 1) ls (.int x :: st) μ) : j_J cc o nL ret ini d xs Q sh mc ms pc ls st μ := by
  refine j_Go.use ?_
  intro p l e R s m args below meth c α A H locs cells slots lr QF h1 h3 h4 h5 h6 h7 hS kk
  obtain ⟨hv, ho⟩ := h5.get hx
  exact lv_iload_n h1.1 h1.2.1 hd rfl hv (kk _ ls (.int x :: st) lr h h5 (j_ok_i h6))
theorem js_lload {n : Nat} {x : Int64} (hx : j_ld ls n = some (.long x)) (hd : decode cc pc = .ok (.lload n, 2)) (h : j_J cc o nL ret ini d xs Q sh mc ms (pc + 2) ls (.long x :: st) μ) : j_J cc o nL ret ini d xs Q sh mc ms pc ls st μ := by
  refine j_Go.use ?_
  intro p l e R s m args below meth c α A H locs cells slots lr QF h1 h3 h4 h5 h6 h7 hS kk
  obtain ⟨hv, ho⟩ := h5.get hx
  exact lv_lload h1.1 h1.2.1 hd hv (kk _ ls (.long x :: st) lr h h5 (j_ok_l h6))
theorem js_lload_n {n : Fin 4} {x : Int64} (hx : j_ld ls n.val = some (.long x)) (hd : decode cc pc = .ok (.lload_n n, 1)) (h : j_J cc o nL ret ini d xs Q sh mc ms (pc + 1) ls (.long x :: st) μ) : j_J cc o nL ret ini d xs Q sh mc ms pc ls st μ := by
  refine j_Go.use ?_
  intro p l e R s m args below meth c α A H locs cells slots lr QF h1 h3 h4 h5 h6 h7 hS kk
  obtain ⟨hv, ho⟩ := h5.get hx
  exact lv_lload_n h1.1 h1.2.1 hd rfl hv (kk _ ls (.long x :: st) lr h h5 (j_ok_l h6))
theorem js_aload {n : Nat} {x : Nat} (hx : j_ld ls n = some (.ref x)) (hd : decode cc pc = .ok (.aload n, 2)) (h : j_J cc o nL ret ini d xs Q sh mc ms (pc + 2) ls (.ref x :: st) μ) : j_J cc o nL ret ini d xs Q sh mc ms pc ls st μ := by
  refine j_Go.use ?_
  intro p l e R s m args below meth c α A H locs cells slots lr QF h1 h3 h4 h5 h6 h7 hS kk
  obtain ⟨hv, ho⟩ := h5.get hx
  exact lv_aload h1.1 h1.2.1 hd hv (kk _ ls (.ref x :: st) lr h h5 (j_ok_r (ho _ rfl) h6))
theorem js_aload_n {n : Fin 4} {x : Nat} (hx : j_ld ls n.val = some (.ref x)) (hd : decode cc pc = .ok (.aload_n n, 1)) (h : j_J cc o nL ret ini d xs Q sh mc ms (pc + 1) ls (.ref x :: st) μ) : j_J cc o nL ret ini d xs Q sh mc ms pc ls st μ := by
  refine j_Go.use ?_
  intro p l e R s m args below meth c α A H locs cells slots lr QF h1 h3 h4 h5 h6 h7 hS kk
  obtain ⟨hv, ho⟩ := h5.get hx
  exact lv_aload_n h1.1 h1.2.1 hd rfl hv (kk _ ls (.ref x :: st) lr h h5 (j_ok_r (ho _ rfl) h6))
theorem js_istore {n : Nat} {x : Int32} (hn : n < ls.length) (hd : decode cc pc = .ok (.istore n, 2)) (h : j_J cc o nL ret ini d xs Q sh mc ms (pc + 2) (j_st1 ls n (.int x)) st μ) : j_J cc o nL ret ini d xs Q sh mc ms pc ls (.int x :: st) μ := by
  refine j_Go.use ?_
  intro p l e R s m args below meth c α A H locs cells slots lr QF h1 h3 h4 h5 h6 h7 hS kk
  exact lv_istore h1.1 h1.2.1 hd h5.has (by rw [← h5.2.2.1]; exact hn) rfl (fun lr2 hl2 => kk _ (j_st1 ls n (.int x)) st lr2 h (h5.set1 (v := .int x) (j_iok x) hl2) (j_ok_t h6))
theorem js_istore_n {n : Fin 4} {x : Int32} (hn : n.val < ls.length) (hd : decode cc pc = .ok (.istore_n n, 1)) (h : j_J cc o nL ret ini d xs Q sh mc ms (pc + 1) (j_st1 ls n.val (.int x)) st μ) : j_J cc o nL ret ini d xs Q sh mc ms pc ls (.int x :: st) μ := by
  refine j_Go.use ?_
  intro p l e R s m args below meth c α A H locs cells slots lr QF h1 h3 h4 h5 h6 h7 hS kk
  exact lv_istore_n h1.1 h1.2.1 hd rfl h5.has (by rw [← h5.2.2.1]; exact hn) rfl (fun lr2 hl2 => kk _ (j_st1 ls n.val (.int x)) st lr2 h (h5.set1 (v := .int x) (j_iok x) hl2) (j_ok_t h6))
theorem js_astore {n : Nat} {x : Nat} (hn : n < ls.length) (hd : decode cc pc = .ok (.astore n, 2)) (h : j_J cc o nL ret ini d xs Q sh mc ms (pc + 2) (j_st1 ls n (.ref x)) st μ) : j_J cc o nL ret ini d xs Q sh mc ms pc ls (.ref x :: st) μ := by
  refine j_Go.use ?_
  intro p l e R s m args below meth c α A H locs cells slots lr QF h1 h3 h4 h5 h6 h7 hS kk
  exact lv_astore h1.1 h1.2.1 hd h5.has (by rw [← h5.2.2.1]; exact hn) rfl (fun lr2 hl2 => kk _ (j_st1 ls n (.ref x)) st lr2 h (h5.set1 (v := .ref x) (fun _ hk => by cases hk; exact j_ok_h h6) hl2) (j_ok_t h6))
theorem js_astore_n {n : Fin 4} {x : Nat} (hn : n.val < ls.length) (hd : decode cc pc = .ok (.astore_n n, 1)) (h : j_J cc o nL ret ini d xs Q sh mc ms (pc + 1) (j_st1 ls n.val (.ref x)) st μ) : j_J cc o nL ret ini d xs Q sh mc ms pc ls (.ref x :: st) μ := by
  refine j_Go.use ?_
  intro p l e R s m args below meth c α A H locs cells slots lr QF h1 h3 h4 h5 h6 h7 hS kk
  exact lv_astore_n h1.1 h1.2.1 hd rfl h5.has (by rw [← h5.2.2.1]; exact hn) rfl (fun lr2 hl2 => kk _ (j_st1 ls n.val (.ref x)) st lr2 h (h5.set1 (v := .ref x) (fun _ hk => by cases hk; exact j_ok_h h6) hl2) (j_ok_t h6))
theorem js_lstore {n : Nat} {x : Int64} (hn : n + 1 < ls.length) (hd : decode cc pc = .ok (.lstore n, 2)) (h : j_J cc o nL ret ini d xs Q sh mc ms (pc + 2) (j_st2 ls n (.long x)) st μ) : j_J cc o nL ret ini d xs Q sh mc ms pc ls (.long x :: st) μ := by
  refine j_Go.use ?_
  intro p l e R s m args below meth c α A H locs cells slots lr QF h1 h3 h4 h5 h6 h7 hS kk
  exact lv_lstore h1.1 h1.2.1 hd h5.has (by rw [← h5.2.2.1]; exact hn) rfl (fun lr2 hl2 => kk _ (j_st2 ls n (.long x)) st lr2 h (h5.set2 (v := .long x) (j_lok x) hl2) (j_ok_t h6))
theorem js_iinc {n : Nat} {k : Int} {x : Int32} (hx : j_ld ls n = some (.int x)) (hd : decode cc pc = .ok (.iinc n k, 3)) (h : j_J cc o nL ret ini d xs Q sh mc ms (pc + 3) (j_st1 ls n (.int (x + Int32.ofInt k))) st μ) : j_J cc o nL ret ini d xs Q sh mc ms pc ls st μ := by
  refine j_Go.use ?_
  intro p l e R s m args below meth c α A H locs cells slots lr QF h1 h3 h4 h5 h6 h7 hS kk
  have hm : (n, Value.int x) ∈ j_as α ls := by
    have hx' : ls[n]? = some (some (.int x)) := by
      rw [j_ld_get] at hx
      cases h9 : ls[n]? with
      | none => rw [h9] at hx; cases hx
      | some z => rw [h9] at hx; exact congrArg some hx
    exact j_as_mem (α := α) hx'
  obtain ⟨j, hj⟩ := List.getElem?_of_mem hm
  exact lv_iinc h1.1 h1.2.1 hd h5.has (k := j) hj rfl (h5.lt hx) rfl (fun lr2 hl2 => kk _ (j_st1 ls n (.int (x + Int32.ofInt k))) st lr2 h (h5.set1 (v := .int (x + Int32.ofInt k)) (j_iok _) hl2) h6)
theorem js_iadd {x y : Int32} (hd : decode cc pc = .ok (.iadd, 1)) (h : j_J cc o nL ret ini d xs Q sh mc ms (pc + 1) ls (.int (x + y) :: st) μ) : j_J cc o nL ret ini d xs Q sh mc ms pc ls (.int y :: .int x :: st) μ := by
  refine j_Go.use ?_
  intro p l e R s m args below meth c α A H locs cells slots lr QF h1 h3 h4 h5 h6 h7 hS kk
  exact lv_iadd h1.1 h1.2.1 hd (kk _ ls (.int (x + y) :: st) lr h h5 (j_ok_i (j_ok_t (j_ok_t h6))))
theorem js_isub {x y : Int32} (hd : decode cc pc = .ok (.isub, 1)) (h : j_J cc o nL ret ini d xs Q sh mc ms (pc + 1) ls (.int (x - y) :: st) μ) : j_J cc o nL ret ini d xs Q sh mc ms pc ls (.int y :: .int x :: st) μ := by
  refine j_Go.use ?_
  intro p l e R s m args below meth c α A H locs cells slots lr QF h1 h3 h4 h5 h6 h7 hS kk
  exact lv_isub h1.1 h1.2.1 hd (kk _ ls (.int (x - y) :: st) lr h h5 (j_ok_i (j_ok_t (j_ok_t h6))))
theorem js_imul {x y : Int32} (hd : decode cc pc = .ok (.imul, 1)) (h : j_J cc o nL ret ini d xs Q sh mc ms (pc + 1) ls (.int (x * y) :: st) μ) : j_J cc o nL ret ini d xs Q sh mc ms pc ls (.int y :: .int x :: st) μ := by
  refine j_Go.use ?_
  intro p l e R s m args below meth c α A H locs cells slots lr QF h1 h3 h4 h5 h6 h7 hS kk
  exact lv_imul h1.1 h1.2.1 hd (kk _ ls (.int (x * y) :: st) lr h h5 (j_ok_i (j_ok_t (j_ok_t h6))))
theorem js_iand {x y : Int32} (hd : decode cc pc = .ok (.iand, 1)) (h : j_J cc o nL ret ini d xs Q sh mc ms (pc + 1) ls (.int (x &&& y) :: st) μ) : j_J cc o nL ret ini d xs Q sh mc ms pc ls (.int y :: .int x :: st) μ := by
  refine j_Go.use ?_
  intro p l e R s m args below meth c α A H locs cells slots lr QF h1 h3 h4 h5 h6 h7 hS kk
  exact lv_iand h1.1 h1.2.1 hd (kk _ ls (.int (x &&& y) :: st) lr h h5 (j_ok_i (j_ok_t (j_ok_t h6))))
theorem js_ior {x y : Int32} (hd : decode cc pc = .ok (.ior, 1)) (h : j_J cc o nL ret ini d xs Q sh mc ms (pc + 1) ls (.int (x ||| y) :: st) μ) : j_J cc o nL ret ini d xs Q sh mc ms pc ls (.int y :: .int x :: st) μ := by
  refine j_Go.use ?_
  intro p l e R s m args below meth c α A H locs cells slots lr QF h1 h3 h4 h5 h6 h7 hS kk
  exact lv_ior h1.1 h1.2.1 hd (kk _ ls (.int (x ||| y) :: st) lr h h5 (j_ok_i (j_ok_t (j_ok_t h6))))
theorem js_ishl {x y : Int32} (hd : decode cc pc = .ok (.ishl, 1)) (h : j_J cc o nL ret ini d xs Q sh mc ms (pc + 1) ls (.int (x <<< (y &&& 31)) :: st) μ) : j_J cc o nL ret ini d xs Q sh mc ms pc ls (.int y :: .int x :: st) μ := by
  refine j_Go.use ?_
  intro p l e R s m args below meth c α A H locs cells slots lr QF h1 h3 h4 h5 h6 h7 hS kk
  exact lv_ishl h1.1 h1.2.1 hd (kk _ ls (.int (x <<< (y &&& 31)) :: st) lr h h5 (j_ok_i (j_ok_t (j_ok_t h6))))
theorem js_ishr {x y : Int32} (hd : decode cc pc = .ok (.ishr, 1)) (h : j_J cc o nL ret ini d xs Q sh mc ms (pc + 1) ls (.int (x >>> (y &&& 31)) :: st) μ) : j_J cc o nL ret ini d xs Q sh mc ms pc ls (.int y :: .int x :: st) μ := by
  refine j_Go.use ?_
  intro p l e R s m args below meth c α A H locs cells slots lr QF h1 h3 h4 h5 h6 h7 hS kk
  exact lv_ishr h1.1 h1.2.1 hd (kk _ ls (.int (x >>> (y &&& 31)) :: st) lr h h5 (j_ok_i (j_ok_t (j_ok_t h6))))
theorem js_idiv {x y : Int32} (hz : ¬ y = 0) (hd : decode cc pc = .ok (.idiv, 1)) (h : j_J cc o nL ret ini d xs Q sh mc ms (pc + 1) ls (.int (x / y) :: st) μ) : j_J cc o nL ret ini d xs Q sh mc ms pc ls (.int y :: .int x :: st) μ := by
  refine j_Go.use ?_
  intro p l e R s m args below meth c α A H locs cells slots lr QF h1 h3 h4 h5 h6 h7 hS kk
  exact lv_idiv h1.1 h1.2.1 hd hz (kk _ ls (.int (x / y) :: st) lr h h5 (j_ok_i (j_ok_t (j_ok_t h6))))
theorem js_iushr {x y : Int32} (hd : decode cc pc = .ok (.iushr, 1)) (h : j_J cc o nL ret ini d xs Q sh mc ms (pc + 1) ls (.int (x.toUInt32 >>> (y.toUInt32 &&& Int32.toUInt32 31)).toInt32 :: st) μ) : j_J cc o nL ret ini d xs Q sh mc ms pc ls (.int y :: .int x :: st) μ := by
  refine j_Go.use ?_
  intro p l e R s m args below meth c α A H locs cells slots lr QF h1 h3 h4 h5 h6 h7 hS kk
  exact lv_iushr h1.1 h1.2.1 hd rfl (kk _ ls (.int (x.toUInt32 >>> (y.toUInt32 &&& Int32.toUInt32 31)).toInt32 :: st) lr h h5 (j_ok_i (j_ok_t (j_ok_t h6))))
theorem js_ladd {x y : Int64} (hd : decode cc pc = .ok (.ladd, 1)) (h : j_J cc o nL ret ini d xs Q sh mc ms (pc + 1) ls (.long (x + y) :: st) μ) : j_J cc o nL ret ini d xs Q sh mc ms pc ls (.long y :: .long x :: st) μ := by
  refine j_Go.use ?_
  intro p l e R s m args below meth c α A H locs cells slots lr QF h1 h3 h4 h5 h6 h7 hS kk
  exact lv_ladd h1.1 h1.2.1 hd (kk _ ls (.long (x + y) :: st) lr h h5 (j_ok_l (j_ok_t (j_ok_t h6))))
theorem js_lmul {x y : Int64} (hd : decode cc pc = .ok (.lmul, 1)) (h : j_J cc o nL ret ini d xs Q sh mc ms (pc + 1) ls (.long (x * y) :: st) μ) : j_J cc o nL ret ini d xs Q sh mc ms pc ls (.long y :: .long x :: st) μ := by
  refine j_Go.use ?_
  intro p l e R s m args below meth c α A H locs cells slots lr QF h1 h3 h4 h5 h6 h7 hS kk
  exact lv_lmul h1.1 h1.2.1 hd (kk _ ls (.long (x * y) :: st) lr h h5 (j_ok_l (j_ok_t (j_ok_t h6))))
theorem js_land {x y : Int64} (hd : decode cc pc = .ok (.land, 1)) (h : j_J cc o nL ret ini d xs Q sh mc ms (pc + 1) ls (.long (x &&& y) :: st) μ) : j_J cc o nL ret ini d xs Q sh mc ms pc ls (.long y :: .long x :: st) μ := by
  refine j_Go.use ?_
  intro p l e R s m args below meth c α A H locs cells slots lr QF h1 h3 h4 h5 h6 h7 hS kk
  exact lv_land h1.1 h1.2.1 hd (kk _ ls (.long (x &&& y) :: st) lr h h5 (j_ok_l (j_ok_t (j_ok_t h6))))
theorem js_lor {x y : Int64} (hd : decode cc pc = .ok (.lor, 1)) (h : j_J cc o nL ret ini d xs Q sh mc ms (pc + 1) ls (.long (x ||| y) :: st) μ) : j_J cc o nL ret ini d xs Q sh mc ms pc ls (.long y :: .long x :: st) μ := by
  refine j_Go.use ?_
  intro p l e R s m args below meth c α A H locs cells slots lr QF h1 h3 h4 h5 h6 h7 hS kk
  exact lv_lor h1.1 h1.2.1 hd (kk _ ls (.long (x ||| y) :: st) lr h h5 (j_ok_l (j_ok_t (j_ok_t h6))))
theorem js_lrem {x y : Int64} (hz : ¬ y = 0) (hd : decode cc pc = .ok (.lrem, 1)) (h : j_J cc o nL ret ini d xs Q sh mc ms (pc + 1) ls (.long (x - x / y * y) :: st) μ) : j_J cc o nL ret ini d xs Q sh mc ms pc ls (.long y :: .long x :: st) μ := by
  refine j_Go.use ?_
  intro p l e R s m args below meth c α A H locs cells slots lr QF h1 h3 h4 h5 h6 h7 hS kk
  exact lv_lrem h1.1 h1.2.1 hd hz (kk _ ls (.long (x - x / y * y) :: st) lr h h5 (j_ok_l (j_ok_t (j_ok_t h6))))
theorem js_lcmp {x y : Int64} (hd : decode cc pc = .ok (.lcmp, 1)) (h : j_J cc o nL ret ini d xs Q sh mc ms (pc + 1) ls (.int (lg_cmp x y) :: st) μ) : j_J cc o nL ret ini d xs Q sh mc ms pc ls (.long y :: .long x :: st) μ := by
  refine j_Go.use ?_
  intro p l e R s m args below meth c α A H locs cells slots lr QF h1 h3 h4 h5 h6 h7 hS kk
  exact W.lcmp h1.1 h1.2.1 hd (kk _ ls (.int (lg_cmp x y) :: st) lr h h5 (j_ok_i (j_ok_t (j_ok_t h6))))
theorem js_lushr {x : Int64} {y : Int32} (hd : decode cc pc = .ok (.lushr, 1)) (h : j_J cc o nL ret ini d xs Q sh mc ms (pc + 1) ls (.long (x.toUInt64 >>> (y.toInt64.toUInt64 &&& Int64.toUInt64 63)).toInt64 :: st) μ) : j_J cc o nL ret ini d xs Q sh mc ms pc ls (.int y :: .long x :: st) μ := by
  refine j_Go.use ?_
  intro p l e R s m args below meth c α A H locs cells slots lr QF h1 h3 h4 h5 h6 h7 hS kk
  exact lv_lushr h1.1 h1.2.1 hd rfl (kk _ ls (.long (x.toUInt64 >>> (y.toInt64.toUInt64 &&& Int64.toUInt64 63)).toInt64 :: st) lr h h5 (j_ok_l (j_ok_t (j_ok_t h6))))
theorem js_lshl {x : Int64} {y : Int32} (hd : decode cc pc = .ok (.lshl, 1)) (h : j_J cc o nL ret ini d xs Q sh mc ms (pc + 1) ls (.long (x <<< (y.toInt64 &&& 63)) :: st) μ) : j_J cc o nL ret ini d xs Q sh mc ms pc ls (.int y :: .long x :: st) μ := by
  refine j_Go.use ?_
  intro p l e R s m args below meth c α A H locs cells slots lr QF h1 h3 h4 h5 h6 h7 hS kk
  exact lv_lshl h1.1 h1.2.1 hd rfl (kk _ ls (.long (x <<< (y.toInt64 &&& 63)) :: st) lr h h5 (j_ok_l (j_ok_t (j_ok_t h6))))
theorem js_i2l {x : Int32} (hd : decode cc pc = .ok (.i2l, 1)) (h : j_J cc o nL ret ini d xs Q sh mc ms (pc + 1) ls (.long x.toInt64 :: st) μ) : j_J cc o nL ret ini d xs Q sh mc ms pc ls (.int x :: st) μ := by
  refine j_Go.use ?_
  intro p l e R s m args below meth c α A H locs cells slots lr QF h1 h3 h4 h5 h6 h7 hS kk
  exact lv_i2l h1.1 h1.2.1 hd rfl (kk _ ls (.long x.toInt64 :: st) lr h h5 (j_ok_l (j_ok_t h6)))
theorem js_l2i {x : Int64} (hd : decode cc pc = .ok (.l2i, 1)) (h : j_J cc o nL ret ini d xs Q sh mc ms (pc + 1) ls (.int x.toInt32 :: st) μ) : j_J cc o nL ret ini d xs Q sh mc ms pc ls (.long x :: st) μ := by
  refine j_Go.use ?_
  intro p l e R s m args below meth c α A H locs cells slots lr QF h1 h3 h4 h5 h6 h7 hS kk
  exact lv_l2i h1.1 h1.2.1 hd rfl (kk _ ls (.int x.toInt32 :: st) lr h h5 (j_ok_i (j_ok_t h6)))
theorem js_i2b {x : Int32} (hd : decode cc pc = .ok (.i2b, 1)) (h : j_J cc o nL ret ini d xs Q sh mc ms (pc + 1) ls (.int x.toInt8.toInt32 :: st) μ) : j_J cc o nL ret ini d xs Q sh mc ms pc ls (.int x :: st) μ := by
  refine j_Go.use ?_
  intro p l e R s m args below meth c α A H locs cells slots lr QF h1 h3 h4 h5 h6 h7 hS kk
  exact lv_i2b h1.1 h1.2.1 hd rfl (kk _ ls (.int x.toInt8.toInt32 :: st) lr h h5 (j_ok_i (j_ok_t h6)))
theorem js_i2c {x : Int32} (hd : decode cc pc = .ok (.i2c, 1)) (h : j_J cc o nL ret ini d xs Q sh mc ms (pc + 1) ls (.int (x.toUInt32 % 65536).toInt32 :: st) μ) : j_J cc o nL ret ini d xs Q sh mc ms pc ls (.int x :: st) μ := by
  refine j_Go.use ?_
  intro p l e R s m args below meth c α A H locs cells slots lr QF h1 h3 h4 h5 h6 h7 hS kk
  exact lv_i2c h1.1 h1.2.1 hd rfl (kk _ ls (.int (x.toUInt32 % 65536).toInt32 :: st) lr h h5 (j_ok_i (j_ok_t h6)))
theorem js_dupi {x : Int32} (hd : decode cc pc = .ok (.dup, 1)) (h : j_J cc o nL ret ini d xs Q sh mc ms (pc + 1) ls (.int x :: .int x :: st) μ) : j_J cc o nL ret ini d xs Q sh mc ms pc ls (.int x :: st) μ := by
  refine j_Go.use ?_
  intro p l e R s m args below meth c α A H locs cells slots lr QF h1 h3 h4 h5 h6 h7 hS kk
  exact lv_dup h1.1 h1.2.1 hd rfl (kk _ ls (.int x :: .int x :: st) lr h h5 (j_ok_i h6))
theorem js_dupr {x : Nat} (hd : decode cc pc = .ok (.dup, 1)) (h : j_J cc o nL ret ini d xs Q sh mc ms (pc + 1) ls (.ref x :: .ref x :: st) μ) : j_J cc o nL ret ini d xs Q sh mc ms pc ls (.ref x :: st) μ := by
  refine j_Go.use ?_
  intro p l e R s m args below meth c α A H locs cells slots lr QF h1 h3 h4 h5 h6 h7 hS kk
  exact lv_dup h1.1 h1.2.1 hd rfl (kk _ ls (.ref x :: .ref x :: st) lr h h5 (j_ok_r (j_ok_h h6) h6))
theorem js_dup2 {i : Int32} {a : Nat} (hd : decode cc pc = .ok (.dup2, 1)) (h : j_J cc o nL ret ini d xs Q sh mc ms (pc + 1) ls (.int i :: .ref a :: .int i :: .ref a :: st) μ) : j_J cc o nL ret ini d xs Q sh mc ms pc ls (.int i :: .ref a :: st) μ := by
  refine j_Go.use ?_
  intro p l e R s m args below meth c α A H locs cells slots lr QF h1 h3 h4 h5 h6 h7 hS kk
  exact lv_dup2_11 h1.1 h1.2.1 hd rfl rfl (kk _ ls (.int i :: .ref a :: .int i :: .ref a :: st) lr h h5 (j_ok_i (j_ok_r (j_ok_h (j_ok_t h6)) h6)))
theorem j_to_eq {pc : Nat} {off : Int} (h : 0 ≤ (pc : Int) + off) : (pc : Int) + off = ((((pc : Int) + off).toNat : Nat) : Int) := (Int.toNat_of_nonneg h).symm
theorem js_goto {off : Int} (ht : 0 ≤ (pc : Int) + off) (hd : decode cc pc = .ok (.goto off, 3)) (h : j_J cc o nL ret ini d xs Q sh mc ms ((pc : Int) + off).toNat ls st μ) : j_J cc o nL ret ini d xs Q sh mc ms pc ls st μ := by
  refine j_Go.use ?_
  intro p l e R s m args below meth c α A H locs cells slots lr QF h1 h3 h4 h5 h6 h7 hS kk
  exact lv_goto h1.1 h1.2.1 hd (j_to_eq ht) (kk _ ls st lr h h5 h6)
theorem js_if {cnd : ClassFile.Cond} {x : Int32} {off : Int} (ht : 0 ≤ (pc : Int) + off) (hd : decode cc pc = .ok (.ifCond cnd off, 3)) (h : j_br cnd x 0 (j_J cc o nL ret ini d xs Q sh mc ms ((pc : Int) + off).toNat ls st μ) (j_J cc o nL ret ini d xs Q sh mc ms (pc + 3) ls st μ)) : j_J cc o nL ret ini d xs Q sh mc ms pc ls (.int x :: st) μ := by
  refine j_Go.use ?_
  intro p l e R s m args below meth c α A H locs cells slots lr QF h1 h3 h4 h5 h6 h7 hS kk
  cases cnd with
  | eq =>
    obtain ⟨kt, kf⟩ := h
    exact lv_if_eq h1.1 h1.2.1 hd (j_to_eq ht) (fun z => kk _ ls st lr (kt z) h5 (j_ok_t h6)) (fun z => kk _ ls st lr ((fun z => kf z) z) h5 (j_ok_t h6))
  | ne =>
    obtain ⟨kt, kf⟩ := h
    exact lv_if_ne h1.1 h1.2.1 hd (j_to_eq ht) (fun z => kk _ ls st lr (kt z) h5 (j_ok_t h6)) (fun z => kk _ ls st lr ((fun z => kf z) z) h5 (j_ok_t h6))
  | lt =>
    obtain ⟨kt, kf⟩ := h
    exact lv_if_lt h1.1 h1.2.1 hd (j_to_eq ht) (fun z => kk _ ls st lr (kt z) h5 (j_ok_t h6)) (fun z => kk _ ls st lr ((fun z => kf (Int32.not_lt.mp z)) z) h5 (j_ok_t h6))
  | ge =>
    obtain ⟨kt, kf⟩ := h
    exact lv_if_ge h1.1 h1.2.1 hd (j_to_eq ht) (fun z => kk _ ls st lr (kt z) h5 (j_ok_t h6)) (fun z => kk _ ls st lr ((fun z => kf (Int32.not_le.mp z)) z) h5 (j_ok_t h6))
  | gt =>
    obtain ⟨kt, kf⟩ := h
    exact lv_if_gt h1.1 h1.2.1 hd (j_to_eq ht) (fun z => kk _ ls st lr (kt z) h5 (j_ok_t h6)) (fun z => kk _ ls st lr ((fun z => kf (Int32.not_lt.mp z)) z) h5 (j_ok_t h6))
  | le =>
    obtain ⟨kt, kf⟩ := h
    exact lv_if_le h1.1 h1.2.1 hd (j_to_eq ht) (fun z => kk _ ls st lr (kt z) h5 (j_ok_t h6)) (fun z => kk _ ls st lr ((fun z => kf (Int32.not_le.mp z)) z) h5 (j_ok_t h6))
theorem js_icmp {cnd : ClassFile.Cond} {x y : Int32} {off : Int} (ht : 0 ≤ (pc : Int) + off) (hd : decode cc pc = .ok (.if_icmp cnd off, 3)) (h : j_br cnd x y (j_J cc o nL ret ini d xs Q sh mc ms ((pc : Int) + off).toNat ls st μ) (j_J cc o nL ret ini d xs Q sh mc ms (pc + 3) ls st μ)) : j_J cc o nL ret ini d xs Q sh mc ms pc ls (.int y :: .int x :: st) μ := by
  refine j_Go.use ?_
  intro p l e R s m args below meth c α A H locs cells slots lr QF h1 h3 h4 h5 h6 h7 hS kk
  cases cnd with
  | eq =>
    obtain ⟨kt, kf⟩ := h
    exact lv_icmp_eq h1.1 h1.2.1 hd (j_to_eq ht) (fun z => kk _ ls st lr (kt z) h5 (j_ok_t (j_ok_t h6))) (fun z => kk _ ls st lr ((fun z => kf z) z) h5 (j_ok_t (j_ok_t h6)))
  | ne =>
    obtain ⟨kt, kf⟩ := h
    exact lv_icmp_ne h1.1 h1.2.1 hd (j_to_eq ht) (fun z => kk _ ls st lr (kt z) h5 (j_ok_t (j_ok_t h6))) (fun z => kk _ ls st lr ((fun z => kf z) z) h5 (j_ok_t (j_ok_t h6)))
  | lt =>
    obtain ⟨kt, kf⟩ := h
    exact lv_icmp_lt h1.1 h1.2.1 hd (j_to_eq ht) (fun z => kk _ ls st lr (kt z) h5 (j_ok_t (j_ok_t h6))) (fun z => kk _ ls st lr ((fun z => kf (Int32.not_lt.mp z)) z) h5 (j_ok_t (j_ok_t h6)))
  | ge =>
    obtain ⟨kt, kf⟩ := h
    exact lv_icmp_ge h1.1 h1.2.1 hd (j_to_eq ht) (fun z => kk _ ls st lr (kt z) h5 (j_ok_t (j_ok_t h6))) (fun z => kk _ ls st lr ((fun z => kf (Int32.not_le.mp z)) z) h5 (j_ok_t (j_ok_t h6)))
  | gt =>
    obtain ⟨kt, kf⟩ := h
    exact lv_icmp_gt h1.1 h1.2.1 hd (j_to_eq ht) (fun z => kk _ ls st lr (kt z) h5 (j_ok_t (j_ok_t h6))) (fun z => kk _ ls st lr ((fun z => kf (Int32.not_lt.mp z)) z) h5 (j_ok_t (j_ok_t h6)))
  | le =>
    obtain ⟨kt, kf⟩ := h
    exact lv_icmp_le h1.1 h1.2.1 hd (j_to_eq ht) (fun z => kk _ ls st lr (kt z) h5 (j_ok_t (j_ok_t h6))) (fun z => kk _ ls st lr ((fun z => kf (Int32.not_le.mp z)) z) h5 (j_ok_t (j_ok_t h6)))
theorem js_table {dflt lo hi : Int} {offs : Array Int} {len : Nat} {x : Int32} (hz : offs.toList.length = (hi - lo + 1).toNat) (hd : decode cc pc = .ok (.tableswitch dflt lo hi offs, len)) (ho : x.toInt < lo ∨ hi < x.toInt → j_to pc dflt fun t => j_J cc o nL ret ini d xs Q sh mc ms t ls st μ) (hi2 : j_tab x (fun off => j_to pc off fun t => j_J cc o nL ret ini d xs Q sh mc ms t ls st μ) offs.toList lo) : j_J cc o nL ret ini d xs Q sh mc ms pc ls (.int x :: st) μ := by
  refine j_Go.use ?_
  intro p l e R s m args below meth c α A H locs cells slots lr QF h1 h3 h4 h5 h6 h7 hS kk
  by_cases hx : x.toInt < lo ∨ hi < x.toInt
  · obtain ⟨g1, g2⟩ := ho hx
    exact lv_tableOut h1.1 h1.2.1 hd hx (j_to_eq g1) (kk _ ls st lr g2 h5 (j_ok_t h6))
  · have hlt : (x.toInt - lo).toNat < offs.toList.length := by omega
    obtain ⟨off, hoff⟩ : ∃ off, offs.toList[(x.toInt - lo).toNat]? = some off := ⟨_, List.getElem?_eq_getElem hlt⟩
    obtain ⟨g1, g2⟩ := j_tab_get offs.toList lo hi2 (x.toInt - lo).toNat off hoff (by omega)
    exact lv_tableIn h1.1 h1.2.1 hd (by omega) (by omega) (by rw [← Array.getElem?_toList]; exact hoff) (j_to_eq g1) (kk _ ls st lr g2 h5 (j_ok_t h6))
theorem js_lookup {dflt : Int} {ps : Array (Int × Int)} {len : Nat} {x : Int32} (hp : (ps.toList.zip (ps.toList.drop 1)).all (fun (a, next) => a.1 < next.1) = true) (hd : decode cc pc = .ok (.lookupswitch dflt ps, len)) (h : j_lku x dflt (fun off => j_to pc off fun t => j_J cc o nL ret ini d xs Q sh mc ms t ls st μ) ps.toList) : j_J cc o nL ret ini d xs Q sh mc ms pc ls (.int x :: st) μ := by
  refine j_Go.use ?_
  intro p l e R s m args below meth c α A H locs cells slots lr QF h1 h3 h4 h5 h6 h7 hS kk
  obtain ⟨g1, g2⟩ := j_lku_get ps.toList h
  exact lv_lookup h1.1 h1.2.1 hd hp rfl (j_to_eq g1) (kk _ ls st lr g2 h5 (j_ok_t h6))
theorem js_min {n : Nat} {x y : Int32} (hm : j_min o n = true) (hd1 : 1 ≤ d) (hst : (st.map fun v => v.category).sum ≤ 8) (hd : decode cc pc = .ok (.invokestatic n, 3)) (h : j_J cc o nL ret ini d xs Q sh mc ms (pc + 3) ls (.int (if y < x then y else x) :: st) μ) : j_J cc o nL ret ini d xs Q sh mc ms pc ls (.int y :: .int x :: st) μ := by
  refine j_Go.use ?_
  intro p l e R s m args below meth c α A H locs cells slots lr QF h1 h3 h4 h5 h6 h7 hS kk
  have hts := h1.2.2.2.2.2.2.2.1
  have hl : (Cond.methodLink (j_cn o) n Lib.Math.min.name).before args s = true := by
    unfold j_min at hm
    simp only [Bool.or_eq_true, Bool.and_eq_true, beq_iff_eq] at hm
    rcases hm with ⟨rfl, rfl⟩ | ⟨rfl, rfl⟩
    · exact hts _ (j_in j_min1.1 rfl)
    · exact hts _ (j_in j_min1.2.1 rfl)
  have hfr := h1.2.2.2.2.2.2.2.2.1
  have hlo := h1.2.2.2.2.2.2.2.2.2
  refine va_mmin h1.1 h1.2.1 (by rw [h1.2.2.1]; exact h5.1.symm) h1.2.2.2.2.2.2.1 hl (hts _ (j_in j_min1.2.2.1 rfl)) (hts _ (j_in j_min1.2.2.2.1 rfl)) (hts _ (j_in j_min1.2.2.2.2 rfl)) (by omega) ?_ (by omega) (by omega) hd (kk _ ls (.int (if y < x then y else x) :: st) lr h h5 (j_ok_i (j_ok_t (j_ok_t h6))))
  have he : ((st.map (j_rn α)).map fun v => v.category) = st.map fun v => v.category := by
    rw [List.map_map]
    exact List.map_congr_left fun v _ => j_rn_cat α v
  rw [he]
  omega
theorem js_sld {i : Int32} {L : Nat} {f : Nat → Int32} (hxs : xs = some (L, f)) (hin : vp_in i L) (hd : decode cc pc = .ok (.iaload, 1)) (h : j_J cc o nL ret ini d xs Q sh mc ms (pc + 1) ls (.int (f i.toNatClampNeg) :: st) μ) : j_J cc o nL ret ini d xs Q sh mc ms pc ls (.int i :: .ref j_sc :: st) μ := by
  refine j_Go.use ?_
  intro p l e R s m args below meth c α A H locs cells slots lr QF h1 h3 h4 h5 h6 h7 hS kk
  subst hxs
  obtain ⟨x1, x2, x3⟩ := h7
  exact va_sld h1.1 h1.2.1 x1 x2 x3 hS hin hd (kk _ ls (.int (f i.toNatClampNeg) :: st) lr h h5 (j_ok_i (j_ok_t (j_ok_t h6))))
theorem js_slen {L : Nat} {f : Nat → Int32} (hxs : xs = some (L, f)) (hd : decode cc pc = .ok (.arraylength, 1)) (h : j_J cc o nL ret ini d xs Q sh mc ms (pc + 1) ls (.int (nI L) :: st) μ) : j_J cc o nL ret ini d xs Q sh mc ms pc ls (.ref j_sc :: st) μ := by
  refine j_Go.use ?_
  intro p l e R s m args below meth c α A H locs cells slots lr QF h1 h3 h4 h5 h6 h7 hS kk
  subst hxs
  obtain ⟨x1, x2, x3⟩ := h7
  exact va_slen h1.1 h1.2.1 x1 x2 x3 hS hd (kk _ ls (.int (nI L) :: st) lr h h5 (j_ok_i (j_ok_t h6)))
end JS
end
section
/-! the heap -/
theorem j_init_ret : lw_tbl.all (fun w => match w with
  | .code y _ _ r => decide (y.name ≠ "<init>") || r.isNone
  | _ => true) = true := by decide +kernel
theorem ret_of_init {y : MethodName} {cc : ByteArray} {n : Nat} {ret : Option FieldType} (h : Cond.code y cc n ret ∈ j_G) (hy : y.name = "<init>") : ret = none := by
  have h1 := List.all_eq_true.mp j_init_ret _ (List.mem_filter.mp h).1
  simp only [hy, ne_eq, not_true_eq_false, decide_false, Bool.false_or, Option.isNone_iff_eq_none] at h1
  exact h1
theorem j_nw {a : String} {i : Nat} {y : MethodName} {hst : String} (h : (if true then Cond.methodLinkNest a i y hst else .methodLink a i y) ∈ lw_tbl) : Cond.methodLinkNest a i y hst ∈ j_NW := List.mem_filter.mpr ⟨h, rfl⟩
theorem j_tt (cA : FieldType → ClassId) : (j_tys cA)[0]? = some (cA .int, .int) ∧ (j_tys cA)[1]? = some (cA .byte, .byte) ∧ (j_tys cA)[2]? = some (cA .char, .char) ∧ (j_tys cA)[3]? = some (cA .boolean, .boolean) ∧ (j_tys cA)[4]? = some (cA .long, .long) := ⟨rfl, rfl, rfl, rfl, rfl⟩
section JH
variable {cc : ByteArray} {o nL : Nat} {ret : Option FieldType} {ini : Bool} {d : Nat} {xs : Option (Nat × (Nat → Int32))} {Q : j_Q} {sh : List j_S} {mc ms pc : Nat} {ls : j_L} {st : List Value} {μ : j_M}
theorem js_get {n ci f a : Nat} {b : Bool} {ks : List j_K} {kd : j_K} {v : Value} (hf : j_fl o n = some (ci, f, b)) (ha : sh[a]? = some (.inr (ci, ks))) (hk : ks[f]? = some kd) (hv : ∀ α : Nat → Nat, j_fv α (μ a) f kd = j_rn α v) (hok : j_okv sh.length v) (hd : decode cc pc = .ok (.getfield n, 3)) (h : j_J cc o nL ret ini d xs Q sh mc ms (pc + 3) ls (v :: st) μ) : j_J cc o nL ret ini d xs Q sh mc ms pc ls (.ref a :: st) μ := by
  intro p l e R s m args below meth c D cA A α H locs cells slots lr QF h1 h2 h3 h4 h5 h6 h7 h8
  have hts := h1.2.2.2.2.2.2.2.1
  obtain ⟨wK, wP, wD, wS, wA, wN⟩ := id h2
  obtain ⟨C, T, N, g1, g2, g3, g4, g5⟩ := j_fl_ok hf
  have he := j_w_get (cA := cA) (α := α) (μ := μ) ha
  refine va_get (v := j_rn α v) h1.1 h1.2.1 hts (j_inF (j_cf ci C T N g1).1) h1.2.2.2.2.2.2.1 wK wP a he g1 f g2 (hts _ (j_in g5 rfl)) (fun x hx => by rw [g3] at hx; exact hx) (by rw [List.getElem?_mapIdx, hk, ← hv α]; rfl) hd ?_
  exact h p l e R s m args below meth c D cA A α H locs cells slots lr QF h1 h2 h3 h4 h5 (fun z hz => (List.mem_cons.mp hz).elim (fun e => by subst e; exact hok) (fun e => h6 z (List.mem_cons_of_mem _ e))) h7 h8
theorem js_put {n ci f a : Nat} {ks : List j_K} {x : Int32} (hf : j_fl o n = some (ci, f, false)) (ha : sh[a]? = some (.inr (ci, ks))) (hk : ks[f]? = some none) (hx : j_nf (j_ty ci f) x) (hd : decode cc pc = .ok (.putfield n, 3)) (h : j_J cc o nL ret ini d xs Q sh mc ms (pc + 3) ls st (j_up μ a f x)) : j_J cc o nL ret ini d xs Q sh mc ms pc ls (.int x :: .ref a :: st) μ := by
  intro p l e R s m args below meth c D cA A α H locs cells slots lr QF h1 h2 h3 h4 h5 h6 h7 h8
  have hts := h1.2.2.2.2.2.2.2.1
  obtain ⟨wK, wP, wD, wS, wA, wN⟩ := id h2
  obtain ⟨C, T, N, g1, g2, g3, g4, g5⟩ := j_fl_ok hf
  obtain ⟨c1, c2, c3⟩ := j_cf ci C T N g1
  obtain ⟨n1, n2⟩ := j_nf_ok hx
  have he := j_w_get (cA := cA) (α := α) (μ := μ) ha
  have hfl : f < ks.length := (List.getElem?_eq_some_iff.mp hk).1
  refine va_put (v := .int x) h1.1 h1.2.1 hts (j_inF c1) (j_ty ci) c2 c3 h1.2.2.2.2.2.2.1 wK wP wD wS a he g1 f g2 (hts _ (j_in g5 rfl)) (fun x hx => by rw [g3] at hx; exact hx) g4 (c2 f g2) n1 n2 (by rw [List.length_mapIdx]; exact hfl) hd (fun H1 locs1 wP1 wD1 wS1 => ?_)
  rw [j_ob_put x hk] at wP1 wD1
  have hw : (j_w cA α sh μ).set a (α a, .inr (ci, ks.mapIdx (fun j k => j_fv α (upd (μ a) f x) j k))) = j_w cA α sh (j_up μ a f x) := (j_w_row ha _).symm
  rw [hw] at wP1 wD1
  exact h p l e R s m args below meth c D cA A α H1 locs1 cells slots lr QF h1 ⟨wK, wP1, wD1, wS1, wA, wN⟩ h3 h4 h5 (j_ok_t (j_ok_t h6)) h7 h8
theorem js_putv {n ci f a r : Nat} {ks : List j_K} (hf : j_fl o n = some (ci, f, false)) (ha : sh[a]? = some (.inr (ci, ks))) (hk : ks[f]? = some (some none)) (hr : r < 2147483648) (hx : fits (j_ty ci f) (.ref r) = true) (hd : decode cc pc = .ok (.putfield n, 3)) (h : j_J cc o nL ret ini d xs Q sh mc ms (pc + 3) ls st (j_up μ a f (nI r))) : j_J cc o nL ret ini d xs Q sh mc ms pc ls (.ref r :: .ref a :: st) μ := by
  intro p l e R s m args below meth c D cA A α H locs cells slots lr QF h1 h2 h3 h4 h5 h6 h7 h8
  have hts := h1.2.2.2.2.2.2.2.1
  obtain ⟨wK, wP, wD, wS, wA, wN⟩ := id h2
  obtain ⟨C, T, N, g1, g2, g3, g4, g5⟩ := j_fl_ok hf
  obtain ⟨c1, c2, c3⟩ := j_cf ci C T N g1
  have he := j_w_get (cA := cA) (α := α) (μ := μ) ha
  have hfl : f < ks.length := (List.getElem?_eq_some_iff.mp hk).1
  refine va_put (v := .ref (α r)) h1.1 h1.2.1 hts (j_inF c1) (j_ty ci) c2 c3 h1.2.2.2.2.2.2.1 wK wP wD wS a he g1 f g2 (hts _ (j_in g5 rfl)) (fun x hx => by rw [g3] at hx; exact hx) g4 (c2 f g2) (by cases j_ty ci f <;> rfl) (by revert hx; cases j_ty ci f <;> intro hx <;> first | rfl | cases hx) (by rw [List.length_mapIdx]; exact hfl) hd (fun H1 locs1 wP1 wD1 wS1 => ?_)
  rw [j_ob_putv hr hk] at wP1 wD1
  have hw : (j_w cA α sh μ).set a (α a, .inr (ci, ks.mapIdx (fun j k => j_fv α (upd (μ a) f (nI r)) j k))) = j_w cA α sh (j_up μ a f (nI r)) := (j_w_row ha _).symm
  rw [hw] at wP1 wD1
  exact h p l e R s m args below meth c D cA A α H1 locs1 cells slots lr QF h1 ⟨wK, wP1, wD1, wS1, wA, wN⟩ h3 h4 h5 (j_ok_t (j_ok_t h6)) h7 h8
theorem js_putw {n ci f a r : Nat} {ks : List j_K} {kd : j_K} (hf : j_fl o n = some (ci, f, false)) (ha : sh[a]? = some (.inr (ci, ks))) (hk : ks[f]? = some kd) (hr : r < 2147483648) (hx : fits (j_ty ci f) (.ref r) = true) (hd : decode cc pc = .ok (.putfield n, 3)) (h : j_J cc o nL ret ini d xs Q (sh.set a (.inr (ci, ks.set f (some none)))) mc ms (pc + 3) ls st (j_up μ a f (nI r))) : j_J cc o nL ret ini d xs Q sh mc ms pc ls (.ref r :: .ref a :: st) μ := by
  intro p l e R s m args below meth c D cA A α H locs cells slots lr QF h1 h2 h3 h4 h5 h6 h7 h8
  have hts := h1.2.2.2.2.2.2.2.1
  obtain ⟨wK, wP, wD, wS, wA, wN⟩ := id h2
  obtain ⟨C, T, N, g1, g2, g3, g4, g5⟩ := j_fl_ok hf
  obtain ⟨c1, c2, c3⟩ := j_cf ci C T N g1
  have he := j_w_get (cA := cA) (α := α) (μ := μ) ha
  have hfl : f < ks.length := (List.getElem?_eq_some_iff.mp hk).1
  refine va_put (v := .ref (α r)) h1.1 h1.2.1 hts (j_inF c1) (j_ty ci) c2 c3 h1.2.2.2.2.2.2.1 wK wP wD wS a he g1 f g2 (hts _ (j_in g5 rfl)) (fun x hx => by rw [g3] at hx; exact hx) g4 (c2 f g2) (by cases j_ty ci f <;> rfl) (by revert hx; cases j_ty ci f <;> intro hx <;> first | rfl | cases hx) (by rw [List.length_mapIdx]; exact hfl) hd (fun H1 locs1 wP1 wD1 wS1 => ?_)
  rw [j_ob_putw hr hfl] at wP1 wD1
  have hal : a < sh.length := (List.getElem?_eq_some_iff.mp ha).1
  have hw : (j_w cA α sh μ).set a (α a, .inr (ci, (ks.set f (some none)).mapIdx (fun j k => j_fv α (upd (μ a) f (nI r)) j k))) = j_w cA α (sh.set a (.inr (ci, ks.set f (some none)))) (j_up μ a f (nI r)) := by
    rw [show j_up μ a f (nI r) = j_row μ a (upd (μ a) f (nI r)) from rfl, j_w_row (s := .inr (ci, ks.set f (some none))) (by rw [List.getElem?_set, if_pos rfl, if_pos hal]), j_w_shape, List.set_set]
    rfl
  rw [hw] at wP1 wD1
  exact h p l e R s m args below meth c D cA A α H1 locs1 cells slots lr QF h1 ⟨wK, wP1, wD1, wS1, wA, wN⟩ h3 h4 (by rw [List.length_set]; exact h5) (by rw [List.length_set]; exact j_ok_t (j_ok_t h6)) h7 (by rw [List.length_set]; exact h8)
theorem js_putr {n ci f a r : Nat} {ks : List j_K} {kd : j_K} (hf : j_fl o n = some (ci, f, true)) (hi : ini = true) (hco : ci = o) (ha : sh[a]? = some (.inr (ci, ks))) (hk : ks[f]? = some kd) (hx : fits (j_ty ci f) (.ref r) = true) (hd : decode cc pc = .ok (.putfield n, 3)) (h : j_J cc o nL ret ini d xs Q (sh.set a (.inr (ci, ks.set f (some (some (some r)))))) mc ms (pc + 3) ls st μ) : j_J cc o nL ret ini d xs Q sh mc ms pc ls (.ref r :: .ref a :: st) μ := by
  intro p l e R s m args below meth c D cA A α H locs cells slots lr QF h1 h2 h3 h4 h5 h6 h7 h8
  have hts := h1.2.2.2.2.2.2.2.1
  obtain ⟨wK, wP, wD, wS, wA, wN⟩ := id h2
  obtain ⟨C, T, N, g1, g2, g3, g4, g5⟩ := j_fl_ok hf
  obtain ⟨c1, c2, c3⟩ := j_cf ci C T N g1
  have he := j_w_get (cA := cA) (α := α) (μ := μ) ha
  have hfl : f < ks.length := (List.getElem?_eq_some_iff.mp hk).1
  have hnm : C = j_cn o := by rw [← hco]; exact j_cls_nm ci _ g1
  refine va_putF (v := .ref (α r)) h1.1 h1.2.1 hts (j_inF c1) (j_ty ci) c2 c3 h1.2.2.2.2.2.2.1 wK wP wD wS a he g1 f g2 (hts _ (j_in g5 rfl)) (fun x hx => by rw [g3] at hx; exact hx) g4 (h1.2.2.2.2.2.1 hi) (by rw [g3]; exact hnm) (c2 f g2) (by cases j_ty ci f <;> rfl) (by revert hx; cases j_ty ci f <;> intro hx <;> first | rfl | cases hx) (by rw [List.length_mapIdx]; exact hfl) hd (fun H1 locs1 wP1 wD1 wS1 => ?_)
  rw [j_ob_putr] at wP1 wD1
  have hw : (j_w cA α sh μ).set a (α a, .inr (ci, (ks.set f (some (some (some r)))).mapIdx (fun j k => j_fv α (μ a) j k))) = j_w cA α (sh.set a (.inr (ci, ks.set f (some (some (some r)))))) μ := by
    rw [j_w_shape]
    rfl
  rw [hw] at wP1 wD1
  exact h p l e R s m args below meth c D cA A α H1 locs1 cells slots lr QF h1 ⟨wK, wP1, wD1, wS1, wA, wN⟩ h3 h4 (by rw [List.length_set]; exact h5) (by rw [List.length_set]; exact j_ok_t (j_ok_t h6)) h7 (by rw [List.length_set]; exact h8)
theorem js_iald {i : Int32} {a n : Nat} (ha : sh[a]? = some (.inl (.int, n))) (hin : vp_in i n) (hd : decode cc pc = .ok (.iaload, 1)) (h : j_J cc o nL ret ini d xs Q sh mc ms (pc + 1) ls (.int (μ a i.toNatClampNeg) :: st) μ) : j_J cc o nL ret ini d xs Q sh mc ms pc ls (.int i :: .ref a :: st) μ := by
  intro p l e R s m args below meth c D cA A α H locs cells slots lr QF h1 h2 h3 h4 h5 h6 h7 h8
  have hts := h1.2.2.2.2.2.2.2.1
  obtain ⟨wK, wP, wD, wS, wA, wN⟩ := id h2
  exact va_iald h1.1 h1.2.1 wK wP a 0 (j_w_get ha) (j_tt cA).1 hin hd (h p l e R s m args below meth c D cA A α H locs cells slots lr QF h1 h2 h3 h4 h5 (j_ok_i (j_ok_t (j_ok_t h6))) h7 h8)
theorem js_bald {i : Int32} {a n : Nat} (ha : sh[a]? = some (.inl (.byte, n))) (hin : vp_in i n) (hd : decode cc pc = .ok (.baload, 1)) (h : j_J cc o nL ret ini d xs Q sh mc ms (pc + 1) ls (.int (μ a i.toNatClampNeg) :: st) μ) : j_J cc o nL ret ini d xs Q sh mc ms pc ls (.int i :: .ref a :: st) μ := by
  intro p l e R s m args below meth c D cA A α H locs cells slots lr QF h1 h2 h3 h4 h5 h6 h7 h8
  have hts := h1.2.2.2.2.2.2.2.1
  obtain ⟨wK, wP, wD, wS, wA, wN⟩ := id h2
  exact va_bald h1.1 h1.2.1 wK wP a 1 (j_w_get ha) (j_tt cA).2.1 hin hd (h p l e R s m args below meth c D cA A α H locs cells slots lr QF h1 h2 h3 h4 h5 (j_ok_i (j_ok_t (j_ok_t h6))) h7 h8)
theorem js_cald {i : Int32} {a n : Nat} (ha : sh[a]? = some (.inl (.char, n))) (hin : vp_in i n) (hd : decode cc pc = .ok (.caload, 1)) (h : j_J cc o nL ret ini d xs Q sh mc ms (pc + 1) ls (.int (μ a i.toNatClampNeg) :: st) μ) : j_J cc o nL ret ini d xs Q sh mc ms pc ls (.int i :: .ref a :: st) μ := by
  intro p l e R s m args below meth c D cA A α H locs cells slots lr QF h1 h2 h3 h4 h5 h6 h7 h8
  have hts := h1.2.2.2.2.2.2.2.1
  obtain ⟨wK, wP, wD, wS, wA, wN⟩ := id h2
  exact va_cald h1.1 h1.2.1 wK wP a 2 (j_w_get ha) (j_tt cA).2.2.1 hin hd (h p l e R s m args below meth c D cA A α H locs cells slots lr QF h1 h2 h3 h4 h5 (j_ok_i (j_ok_t (j_ok_t h6))) h7 h8)
theorem js_zald {i : Int32} {a n : Nat} (ha : sh[a]? = some (.inl (.boolean, n))) (hin : vp_in i n) (hd : decode cc pc = .ok (.baload, 1)) (h : j_J cc o nL ret ini d xs Q sh mc ms (pc + 1) ls (.int (μ a i.toNatClampNeg) :: st) μ) : j_J cc o nL ret ini d xs Q sh mc ms pc ls (.int i :: .ref a :: st) μ := by
  intro p l e R s m args below meth c D cA A α H locs cells slots lr QF h1 h2 h3 h4 h5 h6 h7 h8
  have hts := h1.2.2.2.2.2.2.2.1
  obtain ⟨wK, wP, wD, wS, wA, wN⟩ := id h2
  exact va_zald h1.1 h1.2.1 wK wP a 3 (j_w_get ha) (j_tt cA).2.2.2.1 hin hd (h p l e R s m args below meth c D cA A α H locs cells slots lr QF h1 h2 h3 h4 h5 (j_ok_i (j_ok_t (j_ok_t h6))) h7 h8)
theorem js_lald {i : Int32} {a n : Nat} (ha : sh[a]? = some (.inl (.long, n))) (hin : vp_in i n) (hd : decode cc pc = .ok (.laload, 1)) (h : j_J cc o nL ret ini d xs Q sh mc ms (pc + 1) ls (.long (μ a i.toNatClampNeg).toInt64 :: st) μ) : j_J cc o nL ret ini d xs Q sh mc ms pc ls (.int i :: .ref a :: st) μ := by
  intro p l e R s m args below meth c D cA A α H locs cells slots lr QF h1 h2 h3 h4 h5 h6 h7 h8
  have hts := h1.2.2.2.2.2.2.2.1
  obtain ⟨wK, wP, wD, wS, wA, wN⟩ := id h2
  exact va_lald (f := fun j => (μ a j).toInt64) h1.1 h1.2.1 wK wP a 4 (j_w_get ha) (j_tt cA).2.2.2.2 hin hd (h p l e R s m args below meth c D cA A α H locs cells slots lr QF h1 h2 h3 h4 h5 (j_ok_l (j_ok_t (j_ok_t h6))) h7 h8)
theorem js_iast {i x : Int32} {a n : Nat} (ha : sh[a]? = some (.inl (.int, n))) (hin : vp_in i n) (hd : decode cc pc = .ok (.iastore, 1)) (h : j_J cc o nL ret ini d xs Q sh mc ms (pc + 1) ls st (j_up μ a i.toNatClampNeg x)) : j_J cc o nL ret ini d xs Q sh mc ms pc ls (.int x :: .int i :: .ref a :: st) μ := by
  intro p l e R s m args below meth c D cA A α H locs cells slots lr QF h1 h2 h3 h4 h5 h6 h7 h8
  have hts := h1.2.2.2.2.2.2.2.1
  obtain ⟨wK, wP, wD, wS, wA, wN⟩ := id h2
  refine va_iast h1.1 h1.2.1 wK wP wD wS a 0 (j_w_get ha) (j_tt cA).1 hin hd (fun H1 locs1 wP1 wD1 wS1 => ?_)
  have hw : (j_w cA α sh μ).set a (α a, .inl (cA .int, n, .inl (upd (μ a) i.toNatClampNeg x))) = j_w cA α sh (j_up μ a i.toNatClampNeg x) := (j_w_row ha _).symm
  rw [hw] at wP1 wD1
  exact h p l e R s m args below meth c D cA A α H1 locs1 cells slots lr QF h1 ⟨wK, wP1, wD1, wS1, wA, wN⟩ h3 h4 h5 (j_ok_t (j_ok_t (j_ok_t h6))) h7 h8
theorem js_bast {i x : Int32} {a n : Nat} (ha : sh[a]? = some (.inl (.byte, n))) (hin : vp_in i n) (hd : decode cc pc = .ok (.bastore, 1)) (h : j_J cc o nL ret ini d xs Q sh mc ms (pc + 1) ls st (j_up μ a i.toNatClampNeg (vp_nar .byte x))) : j_J cc o nL ret ini d xs Q sh mc ms pc ls (.int x :: .int i :: .ref a :: st) μ := by
  intro p l e R s m args below meth c D cA A α H locs cells slots lr QF h1 h2 h3 h4 h5 h6 h7 h8
  have hts := h1.2.2.2.2.2.2.2.1
  obtain ⟨wK, wP, wD, wS, wA, wN⟩ := id h2
  refine va_bast h1.1 h1.2.1 wK wP wD wS a 1 (j_w_get ha) (j_tt cA).2.1 hin hd (fun H1 locs1 wP1 wD1 wS1 => ?_)
  have hw : (j_w cA α sh μ).set a (α a, .inl (cA .byte, n, .inl (upd (μ a) i.toNatClampNeg (vp_nar .byte x)))) = j_w cA α sh (j_up μ a i.toNatClampNeg (vp_nar .byte x)) := (j_w_row ha _).symm
  rw [hw] at wP1 wD1
  exact h p l e R s m args below meth c D cA A α H1 locs1 cells slots lr QF h1 ⟨wK, wP1, wD1, wS1, wA, wN⟩ h3 h4 h5 (j_ok_t (j_ok_t (j_ok_t h6))) h7 h8
theorem js_cast {i x : Int32} {a n : Nat} (ha : sh[a]? = some (.inl (.char, n))) (hin : vp_in i n) (hd : decode cc pc = .ok (.castore, 1)) (h : j_J cc o nL ret ini d xs Q sh mc ms (pc + 1) ls st (j_up μ a i.toNatClampNeg (vp_nar .char x))) : j_J cc o nL ret ini d xs Q sh mc ms pc ls (.int x :: .int i :: .ref a :: st) μ := by
  intro p l e R s m args below meth c D cA A α H locs cells slots lr QF h1 h2 h3 h4 h5 h6 h7 h8
  have hts := h1.2.2.2.2.2.2.2.1
  obtain ⟨wK, wP, wD, wS, wA, wN⟩ := id h2
  refine va_cast h1.1 h1.2.1 wK wP wD wS a 2 (j_w_get ha) (j_tt cA).2.2.1 hin hd (fun H1 locs1 wP1 wD1 wS1 => ?_)
  have hw : (j_w cA α sh μ).set a (α a, .inl (cA .char, n, .inl (upd (μ a) i.toNatClampNeg (vp_nar .char x)))) = j_w cA α sh (j_up μ a i.toNatClampNeg (vp_nar .char x)) := (j_w_row ha _).symm
  rw [hw] at wP1 wD1
  exact h p l e R s m args below meth c D cA A α H1 locs1 cells slots lr QF h1 ⟨wK, wP1, wD1, wS1, wA, wN⟩ h3 h4 h5 (j_ok_t (j_ok_t (j_ok_t h6))) h7 h8
theorem js_zast {i x : Int32} {a n : Nat} (ha : sh[a]? = some (.inl (.boolean, n))) (hin : vp_in i n) (hd : decode cc pc = .ok (.bastore, 1)) (h : j_J cc o nL ret ini d xs Q sh mc ms (pc + 1) ls st (j_up μ a i.toNatClampNeg (vp_nar .boolean x))) : j_J cc o nL ret ini d xs Q sh mc ms pc ls (.int x :: .int i :: .ref a :: st) μ := by
  intro p l e R s m args below meth c D cA A α H locs cells slots lr QF h1 h2 h3 h4 h5 h6 h7 h8
  have hts := h1.2.2.2.2.2.2.2.1
  obtain ⟨wK, wP, wD, wS, wA, wN⟩ := id h2
  refine va_zast h1.1 h1.2.1 wK wP wD wS a 3 (j_w_get ha) (j_tt cA).2.2.2.1 hin hd (fun H1 locs1 wP1 wD1 wS1 => ?_)
  have hw : (j_w cA α sh μ).set a (α a, .inl (cA .boolean, n, .inl (upd (μ a) i.toNatClampNeg (vp_nar .boolean x)))) = j_w cA α sh (j_up μ a i.toNatClampNeg (vp_nar .boolean x)) := (j_w_row ha _).symm
  rw [hw] at wP1 wD1
  exact h p l e R s m args below meth c D cA A α H1 locs1 cells slots lr QF h1 ⟨wK, wP1, wD1, wS1, wA, wN⟩ h3 h4 h5 (j_ok_t (j_ok_t (j_ok_t h6))) h7 h8
theorem js_alen_int {a n : Nat} (ha : sh[a]? = some (.inl (.int, n))) (hd : decode cc pc = .ok (.arraylength, 1)) (h : j_J cc o nL ret ini d xs Q sh mc ms (pc + 1) ls (.int (nI n) :: st) μ) : j_J cc o nL ret ini d xs Q sh mc ms pc ls (.ref a :: st) μ := by
  intro p l e R s m args below meth c D cA A α H locs cells slots lr QF h1 h2 h3 h4 h5 h6 h7 h8
  have hts := h1.2.2.2.2.2.2.2.1
  obtain ⟨wK, wP, wD, wS, wA, wN⟩ := id h2
  exact va_alen h1.1 h1.2.1 wK wP a 0 (j_w_get ha) (j_tt cA).1 rfl hd (h p l e R s m args below meth c D cA A α H locs cells slots lr QF h1 h2 h3 h4 h5 (j_ok_i (j_ok_t h6)) h7 h8)
theorem js_alen_byte {a n : Nat} (ha : sh[a]? = some (.inl (.byte, n))) (hd : decode cc pc = .ok (.arraylength, 1)) (h : j_J cc o nL ret ini d xs Q sh mc ms (pc + 1) ls (.int (nI n) :: st) μ) : j_J cc o nL ret ini d xs Q sh mc ms pc ls (.ref a :: st) μ := by
  intro p l e R s m args below meth c D cA A α H locs cells slots lr QF h1 h2 h3 h4 h5 h6 h7 h8
  have hts := h1.2.2.2.2.2.2.2.1
  obtain ⟨wK, wP, wD, wS, wA, wN⟩ := id h2
  exact va_alen h1.1 h1.2.1 wK wP a 1 (j_w_get ha) (j_tt cA).2.1 rfl hd (h p l e R s m args below meth c D cA A α H locs cells slots lr QF h1 h2 h3 h4 h5 (j_ok_i (j_ok_t h6)) h7 h8)
theorem js_alen_char {a n : Nat} (ha : sh[a]? = some (.inl (.char, n))) (hd : decode cc pc = .ok (.arraylength, 1)) (h : j_J cc o nL ret ini d xs Q sh mc ms (pc + 1) ls (.int (nI n) :: st) μ) : j_J cc o nL ret ini d xs Q sh mc ms pc ls (.ref a :: st) μ := by
  intro p l e R s m args below meth c D cA A α H locs cells slots lr QF h1 h2 h3 h4 h5 h6 h7 h8
  have hts := h1.2.2.2.2.2.2.2.1
  obtain ⟨wK, wP, wD, wS, wA, wN⟩ := id h2
  exact va_alen h1.1 h1.2.1 wK wP a 2 (j_w_get ha) (j_tt cA).2.2.1 rfl hd (h p l e R s m args below meth c D cA A α H locs cells slots lr QF h1 h2 h3 h4 h5 (j_ok_i (j_ok_t h6)) h7 h8)
theorem js_alen_boolean {a n : Nat} (ha : sh[a]? = some (.inl (.boolean, n))) (hd : decode cc pc = .ok (.arraylength, 1)) (h : j_J cc o nL ret ini d xs Q sh mc ms (pc + 1) ls (.int (nI n) :: st) μ) : j_J cc o nL ret ini d xs Q sh mc ms pc ls (.ref a :: st) μ := by
  intro p l e R s m args below meth c D cA A α H locs cells slots lr QF h1 h2 h3 h4 h5 h6 h7 h8
  have hts := h1.2.2.2.2.2.2.2.1
  obtain ⟨wK, wP, wD, wS, wA, wN⟩ := id h2
  exact va_alen h1.1 h1.2.1 wK wP a 3 (j_w_get ha) (j_tt cA).2.2.2.1 rfl hd (h p l e R s m args below meth c D cA A α H locs cells slots lr QF h1 h2 h3 h4 h5 (j_ok_i (j_ok_t h6)) h7 h8)
theorem js_acp {n : Nat} {k dp sp : Int32} {a a0 n0 n1 : Nat} (hm : j_acp o n = true) (hd1 : 1 ≤ d) (e1 : ¬ sp < 0) (e2 : ¬ dp < 0) (e3 : ¬ k < 0) (ha0 : sh[a0]? = some (.inl (.char, n0))) (e4 : sp.toNatClampNeg + k.toNatClampNeg ≤ n0) (ha : sh[a]? = some (.inl (.char, n1))) (e5 : dp.toNatClampNeg + k.toNatClampNeg ≤ n1) (hfit : ∀ i, i < k.toNatClampNeg → fits .char (.int (μ a0 (sp.toNatClampNeg + i))) = true) (hd : decode cc pc = .ok (.invokestatic n, 3)) (h : j_J cc o nL ret ini d xs Q sh mc ms (pc + 3) ls [] (j_row μ a (va_cpy (μ a0) (μ a) sp.toNatClampNeg dp.toNatClampNeg k.toNatClampNeg))) : j_J cc o nL ret ini d xs Q sh mc ms pc ls (.int k :: .int dp :: .ref a :: .int sp :: .ref a0 :: []) μ := by
  intro p l e R s m args below meth c D cA A α H locs cells slots lr QF h1 h2 h3 h4 h5 h6 h7 h8
  have hts := h1.2.2.2.2.2.2.2.1
  obtain ⟨wK, wP, wD, wS, wA, wN⟩ := id h2
  unfold j_acp at hm
  simp only [Bool.and_eq_true, beq_iff_eq] at hm
  obtain ⟨rfl, rfl⟩ := hm
  have hfr := h1.2.2.2.2.2.2.2.2.1
  have hlo := h1.2.2.2.2.2.2.2.2.2
  refine va_copyi (rest := []) h1.1 h1.2.1 (by rw [h1.2.2.1]; exact h5.1.symm) h1.2.2.2.2.2.2.1 (hts _ (j_in j_acp1.1 rfl)) (hts _ (j_in j_acp1.2.1 rfl)) (hts _ (j_in j_acp1.2.2.1 rfl)) (hts _ (j_in j_acp1.2.2.2 rfl)) wK wP wD wS a0 a 2 2 (j_w_get ha0) (j_w_get ha) (j_tt cA).2.2.1 (j_tt cA).2.2.1 rfl e1 e2 e3 e4 e5 hfit (by omega) (Nat.le_trans (show _ ≤ 64 by decide) (by omega)) hd (fun H1 locs1 wP1 wD1 wS1 => ?_)
  have hw : (j_w cA α sh μ).set a (α a, .inl (cA .char, n1, .inl (va_cpy (μ a0) (μ a) sp.toNatClampNeg dp.toNatClampNeg k.toNatClampNeg))) = j_w cA α sh (j_row μ a (va_cpy (μ a0) (μ a) sp.toNatClampNeg dp.toNatClampNeg k.toNatClampNeg)) := (j_w_row ha _).symm
  rw [hw] at wP1 wD1
  exact h p l e R s m args below meth c D cA A α H1 locs1 cells slots lr QF h1 ⟨wK, wP1, wD1, wS1, wA, wN⟩ h3 h4 h5 (fun v hv => by cases hv) h7 h8
theorem js_ret (hd : decode cc pc = .ok (.return_, 1)) (hr : ret = none) (h : Q none sh μ) : j_J cc o nL ret ini d xs Q sh mc ms pc ls [] μ := by
  intro p l e R s m args below meth c D cA A α H locs cells slots lr QF h1 h2 h3 h4 h5 h6 h7 h8
  exact h8 none sh μ α H locs cells slots lr pc h (Nat.le_refl _) (fun _ _ => rfl) h2 (by omega) (by omega) (fun _ => ⟨hd, hr⟩) (fun v hv => by cases hv)
theorem js_iret {v : Int32} (hd : decode cc pc = .ok (.ireturn, 1)) (hr : j_rt ret v) (h : Q (some v) sh μ) : j_J cc o nL ret ini d xs Q sh mc ms pc ls [.int v] μ := by
  intro p l e R s m args below meth c D cA A α H locs cells slots lr QF h1 h2 h3 h4 h5 h6 h7 h8
  refine h8 (some v) sh μ α H locs cells slots lr pc h (Nat.le_refl _) (fun _ _ => rfl) h2 (by omega) (by omega) (fun hv => by cases hv) (fun x hx => ?_)
  cases hx
  cases ret with
  | none => exact hr.elim
  | some ty => exact ⟨hd, ty, rfl, (j_nf_ok hr).1⟩
theorem j_Xs_grow {α : Nat → Nat} {A : Nat → Prop} {s : State} {n q : Nat} (h : j_Xs xs α A s) (hn : n < j_sc) : j_Xs xs (fun k => if k = n then q else α k) A s := by
  unfold j_Xs at h ⊢
  cases xs with
  | none => trivial
  | some z =>
    dsimp only at h ⊢
    rw [if_neg (by omega : ¬ j_sc = n)]
    exact h
theorem j_al_ext {α : Nat → Nat} {n q : Nat} (hn : n < j_sc) : ∀ k, k < n ∨ k = j_sc → (fun k => if k = n then q else α k) k = α k := by
  intro k hk
  show (if k = n then q else α k) = α k
  rw [if_neg]
  rcases hk with hk | hk <;> omega
theorem js_newarray {t : ArrayType} {n : Int32} (hn : ¬ n < 0) (hN : n.toNatClampNeg ≤ 1000000) (hmc : 1 ≤ mc) (hms : n.toNatClampNeg ≤ ms) (hsh : sh.length < j_sc) (hok : j_okr sh.length sh μ) (ht : t = .int ∨ t = .char ∨ t = .byte ∨ t = .boolean ∨ t = .long) (hd : decode cc pc = .ok (.newarray t, 2)) (h : j_J cc o nL ret ini d xs Q (sh ++ [.inl (j_at t, n.toNatClampNeg)]) (mc - 1) (ms - n.toNatClampNeg) (pc + 2) ls (.ref sh.length :: st) (j_row μ sh.length (fun _ => 0))) : j_J cc o nL ret ini d xs Q sh mc ms pc ls (.int n :: st) μ := by
  intro p l e R s m args below meth c D cA A α H locs cells slots lr QF h1 h2 h3 h4 h5 h6 h7 h8
  have hts := h1.2.2.2.2.2.2.2.1
  obtain ⟨wK, wP, wD, wS, wA, wN⟩ := id h2
  have key : ∀ (ty : FieldType) (a0 : vp_A) (k0 : Nat), newarray.typeOf t = ty → j_at t = ty → Cond.arrayClass ty ∈ lw_tbl → (j_tys cA)[k0]? = some (cA ty, ty) → (∀ cB : ClassId, vp_cell cB a0 = arrV cB n.toNatClampNeg (fun _ => defaultValue ty)) → (∀ β : Nat → Nat, j_ce cA β (fun _ => 0) (.inl (ty, n.toNatClampNeg)) = .inl (cA ty, a0)) → n.toNatClampNeg * componentBytes ty ≤ 536870912 → (∀ cB : ClassId, va_RA s cB ty → va_RA s (cA ty) ty → cB = cA ty) → W p l e R s m args below meth c H locs cells slots QF (F0 m pc lr ((Value.int n :: st).map (j_rn α))) := by
    intro ty a0 k0 e0 e0' e1 e2 e3 e4 e5 e6
    refine va_newa h1.1 h1.2.1 (by rw [e0]; exact hts _ (j_in e1 rfl)) e0 wK wP wD wS wA (a0 := a0) e3 hn rfl e5 (by omega) (by omega) hd (fun q cB H1 wK1 wP1 wD1 wS1 => ?_)
    have hcB : cB = cA ty := by
      refine e6 cB ?_ ((wK.2 k0 _ e2).2)
      have hl : (j_tys cA ++ [(cB, ty)])[(j_tys cA).length]? = some (cB, ty) := by
        rw [List.getElem?_append_right (Nat.le_refl _), Nat.sub_self]; rfl
      exact (wK1.2 _ _ hl).2
    subst hcB
    have hw : j_w cA α sh μ ++ [(q, .inl (cA ty, a0))] = j_w cA (fun k => if k = sh.length then q else α k) (sh ++ [.inl (ty, n.toNatClampNeg)]) (j_row μ sh.length (fun _ => 0)) := by
      rw [j_w_grow hok, e4]
    rw [hw] at wP1 wD1
    have hx := j_al_ext (α := α) (q := q) hsh
    have hlen : (sh ++ [(.inl (ty, n.toNatClampNeg) : j_S)]).length = sh.length + 1 := by simp
    rw [e0'] at h
    have hst : (Value.ref sh.length :: st).map (j_rn (fun k => if k = sh.length then q else α k)) = .ref q :: st.map (j_rn α) := by
      rw [List.map_cons, j_map_ext (j_ok_t h6) hx]
      simp [j_rn]
    have := h p l e R s m args below meth c D cA A (fun k => if k = sh.length then q else α k) H1 locs (cells + 1) (slots + n.toNatClampNeg) lr QF h1 ⟨wK, wP1, wD1, wS1, wA, wN⟩ (by omega) (by omega) (by rw [hlen]; exact h5.ext (by omega) hx) (by rw [hlen]; exact j_ok_r (Or.inl (by omega)) (fun v hv => j_okv_ext (j_ok_t h6 v hv) (by omega))) (j_Xs_grow h7 hsh)
      (fun r sh' μ' α' H' locs' cells' slots' lr' pc' b1 b2 b3 => h8 r sh' μ' α' H' locs' cells' slots' lr' pc' b1 (by omega) (fun k hk => by
        rw [b3 k (hk.elim (fun z => Or.inl (by omega)) Or.inr)]
        exact hx k hk))
    rw [hst] at this
    exact this
  rcases ht with rfl | rfl | rfl | rfl | rfl
  · exact key .int (n.toNatClampNeg, .inl fun _ => 0) 0 rfl rfl j_arr.1 (j_tt cA).1 (fun _ => rfl) (fun _ => rfl) (by simp [componentBytes]; omega) (fun cB a b => Option.some.inj (a.symm.trans b))
  · exact key .char (n.toNatClampNeg, .inl fun _ => 0) 2 rfl rfl j_arr.2.2.1 (j_tt cA).2.2.1 (fun _ => rfl) (fun _ => rfl) (by simp [componentBytes]; omega) (fun cB a b => Option.some.inj (a.symm.trans b))
  · exact key .byte (n.toNatClampNeg, .inl fun _ => 0) 1 rfl rfl j_arr.2.1 (j_tt cA).2.1 (fun _ => rfl) (fun _ => rfl) (by simp [componentBytes]; omega) (fun cB a b => Option.some.inj (a.symm.trans b))
  · exact key .boolean (n.toNatClampNeg, .inl fun _ => 0) 3 rfl rfl j_arr.2.2.2.1 (j_tt cA).2.2.2.1 (fun _ => rfl) (fun _ => rfl) (by simp [componentBytes]; omega) (fun cB a b => Option.some.inj (a.symm.trans b))
  · exact key .long (n.toNatClampNeg, .inr (.inl fun _ => (0 : Int32).toInt64)) 4 rfl rfl j_arr.2.2.2.2 (j_tt cA).2.2.2.2 (fun _ => rfl) (fun _ => rfl) (by simp [componentBytes]; omega) (fun cB a b => Option.some.inj (a.symm.trans b))
theorem j_ty_kinds : ∀ (i j : Nat), j_ty i j = .int ∨ j_ty i j = .boolean ∨ j_ty i j = .char ∨ (∃ C, j_ty i j = .object C) ∨ ∃ t, j_ty i j = .array t := by
  intro i j
  unfold j_ty
  split
  · unfold tyX0; split <;> simp
  · unfold tyX1; split <;> simp
  · unfold tyX2; split <;> simp
  · unfold tyX3; split <;> simp
  · unfold tyX4; split <;> simp
  · unfold tyX5; split <;> simp
  · unfold tyX6; split <;> simp
  · unfold tyX7; split <;> simp
  · unfold tyX8; split <;> simp
  · unfold tyX9; split <;> simp
  · unfold tyX10; split <;> simp
  · simp
theorem js_new {n ci N : Nat} (hc : j_cl o n = some (ci, N)) (hmc : 1 ≤ mc) (hms : N ≤ ms) (hsh : sh.length < j_sc) (hok : j_okr sh.length sh μ) (hd : decode cc pc = .ok (.new n, 3)) (h : j_J cc o nL ret ini d xs Q (sh ++ [.inr (ci, j_k0 ci N)]) (mc - 1) (ms - N) (pc + 3) ls (.ref sh.length :: st) (j_row μ sh.length (fun _ => 0))) : j_J cc o nL ret ini d xs Q sh mc ms pc ls st μ := by
  intro p l e R s m args below meth c D cA A α H locs cells slots lr QF h1 h2 h3 h4 h5 h6 h7 h8
  have hts := h1.2.2.2.2.2.2.2.1
  obtain ⟨wK, wP, wD, wS, wA, wN⟩ := id h2
  obtain ⟨C, T, g1, g2, g3, g4⟩ := j_cl_ok hc
  obtain ⟨c1, c2, c3⟩ := j_cf ci C T N g1
  refine va_new (fs := (j_k0 ci N).mapIdx (fun j k => j_fv α (fun _ => 0) j k)) h1.1 h1.2.1 hts (j_inF c1) (j_ty ci) c2 h1.2.2.2.2.2.2.1 (hts _ (j_in g2 rfl)) (hts _ (j_in g3 rfl)) (hts _ (j_in g4 rfl)) wK wP wD wS wA g1 (fun j hj => ?_) (by omega) (by omega) hd (fun q H1 wP1 wD1 wS1 => ?_)
  · unfold vp_V j_k0
    rw [List.getD_eq_getElem?_getD, List.getElem?_mapIdx, List.getElem?_map, List.getElem?_range hj]
    have h9 : parseFieldDescriptor (T j).2.2.1 = some (j_ty ci j) := c2 j hj
    have hint : j_ty ci j = .int ∨ j_ty ci j = .boolean ∨ j_ty ci j = .char ∨ (∃ C, j_ty ci j = .object C) ∨ ∃ t, j_ty ci j = .array t := j_ty_kinds ci j
    rcases hint with e | e | e | ⟨C, e⟩ | ⟨t, e⟩ <;> simp [e, j_k00, j_fv, defaultValue]
  · have hsame : ∀ β : Nat → Nat, (j_k0 ci N).mapIdx (fun j k => j_fv β (fun _ => 0) j k) = (j_k0 ci N).mapIdx (fun j k => j_fv α (fun _ => 0) j k) := by
      intro β
      apply List.ext_getElem?
      intro j
      rw [List.getElem?_mapIdx, List.getElem?_mapIdx]
      unfold j_k0
      rw [List.getElem?_map]
      cases (List.range N)[j]? with
      | none => rfl
      | some z =>
        simp only [Option.map_some, Option.some.injEq]
        unfold j_k00
        split <;> rfl
    have hw : j_w cA α sh μ ++ [(q, .inr (ci, (j_k0 ci N).mapIdx (fun j k => j_fv α (fun _ => 0) j k)))] = j_w cA (fun k => if k = sh.length then q else α k) (sh ++ [.inr (ci, j_k0 ci N)]) (j_row μ sh.length (fun _ => 0)) := by
      rw [j_w_grow hok]
      simp only [j_ce]
      rw [hsame (fun k => if k = sh.length then q else α k)]
    rw [hw] at wP1 wD1
    have hx := j_al_ext (α := α) (q := q) hsh
    have hlen : (sh ++ [(.inr (ci, j_k0 ci N) : j_S)]).length = sh.length + 1 := by simp
    have hst : (Value.ref sh.length :: st).map (j_rn (fun k => if k = sh.length then q else α k)) = .ref q :: st.map (j_rn α) := by
      rw [List.map_cons, j_map_ext h6 hx]
      simp [j_rn]
    have := h p l e R s m args below meth c D cA A (fun k => if k = sh.length then q else α k) H1 locs (cells + 1) (slots + N) lr QF h1 ⟨wK, wP1, wD1, wS1, wA, wN⟩ (by omega) (by omega) (by rw [hlen]; exact h5.ext (by omega) hx) (by rw [hlen]; exact j_ok_r (Or.inl (by omega)) (fun v hv => j_okv_ext (h6 v hv) (by omega))) (j_Xs_grow h7 hsh)
      (fun r sh' μ' α' H' locs' cells' slots' lr' pc' b1 b2 b3 => h8 r sh' μ' α' H' locs' cells' slots' lr' pc' b1 (by omega) (fun k hk => by
        rw [b3 k (hk.elim (fun z => Or.inl (by omega)) Or.inr)]
        exact hx k hk))
    rw [hst] at this
    exact this
theorem js_oinit {n a : Nat} (hm : j_oi o n = true) (hd1 : 1 ≤ d) (hst : (st.map fun v => v.category).sum ≤ 8) (hd : decode cc pc = .ok (.invokespecial n, 3)) (h : j_J cc o nL ret ini d xs Q sh mc ms (pc + 3) ls st μ) : j_J cc o nL ret ini d xs Q sh mc ms pc ls (.ref a :: st) μ := by
  intro p l e R s m args below meth c D cA A α H locs cells slots lr QF h1 h2 h3 h4 h5 h6 h7 h8
  have hts := h1.2.2.2.2.2.2.2.1
  obtain ⟨wK, wP, wD, wS, wA, wN⟩ := id h2
  have hfr := h1.2.2.2.2.2.2.2.2.1
  have hlo := h1.2.2.2.2.2.2.2.2.2
  refine W.objInit h1.1 h1.2.1 h1.2.2.2.2.2.2.1 (hts _ (j_in (j_oi_ok hm) rfl)) (hts _ (j_in j_obj1 rfl)) (hts _ (j_in j_obj2 rfl)) rfl (by rw [h1.2.2.1]; exact h5.1) (a := α a) (rest := st.map (j_rn α)) rfl hd (by omega) ?_ (h p l e R s m args below meth c D cA A α H locs cells slots lr QF h1 h2 h3 h4 h5 (j_ok_t h6) h7 h8)
  have he : ((st.map (j_rn α)).map fun v => v.category) = st.map fun v => v.category := by
    rw [List.map_map]
    exact List.map_congr_left fun v _ => j_rn_cat α v
  rw [he]
  show 2 * 0 + _ + 12 ≤ _
  omega
theorem js_init {n a : Nat} {y : MethodName} {b : Bool} (hm : j_nl o n = some (y, b)) (hst : (st.map fun v => v.category).sum ≤ 8) (hd : decode cc pc = .ok (.invokespecial n, 3))
    (hX : j_X d mc ms y sh [.ref a] μ (fun mc ms r sh' μ' => j_J cc o nL ret ini d xs Q sh' mc ms (pc + 3) ls ((r.map Value.int).toList ++ st) μ')) : j_J cc o nL ret ini d xs Q sh mc ms pc ls (.ref a :: st) μ := by
  intro p l e R s m args below meth c D cA A α H locs cells slots lr QF h1 h2 h3 h4 h5 h6 h7 h8
  have hts := h1.2.2.2.2.2.2.2.1
  obtain ⟨wK, wP, wD, wS, wA, wN⟩ := id h2
  obtain ⟨d1, mc1, ms1, Q1, hd1, hmc, hms, ⟨cc1, maxL, ret1, hcode, hmax, hMet⟩, hK⟩ := hX
  obtain ⟨m1, m2, m3, m4, m5, m6, m7⟩ := j_nl_ok hm
  have hok : ∀ v ∈ [Value.ref a], j_okv sh.length v := by
    intro v hv
    rw [List.mem_singleton.mp hv]
    exact h6 _ List.mem_cons_self
  have hM := hMet hok l D cA α H.size
  have hfr := h1.2.2.2.2.2.2.2.2.1
  have hlo := h1.2.2.2.2.2.2.2.2.2
  have hrm : (j_rm d1 mc1 ms1).frames + 1 ≤ R.frames ∧ 8 + (maxL + 11) + (j_rm d1 mc1 ms1).locals ≤ R.locals := ⟨by show d1 + 1 ≤ _; omega, by show 8 + (maxL + 11) + (64 * d1 + 16) ≤ _; omega⟩
  have hcat : 2 * (F0 m pc lr ((Value.ref a :: st).map (j_rn α))).monitorRoom + ((st.map (j_rn α)).map fun v => v.category).sum ≤ 8 := by
    show 2 * 0 + _ ≤ 8
    rw [List.map_map]
    have he : (st.map ((fun v => v.category) ∘ j_rn α)) = st.map fun v => v.category := List.map_congr_left fun v _ => j_rn_cat α v
    rw [he]
    omega
  have hr1 : ret1 = none := ret_of_init hcode m4
  subst hr1
  cases b with
  | true =>
    have hr := va_runIN (p := p) (l := l) (e := e) (R := R) (s := s) (m := m) (args := args) (below := below) (meth := meth) (c := c) (H := H) (locs := locs) (cells := cells) (slots := slots) (As := []) (rest := st.map (j_rn α)) (b := α a) (g := F0 m pc lr ((Value.ref a :: st).map (j_rn α)))
      ⟨h1.1, h1.2.1, h1.2.2.1, h1.2.2.2.2.2.2.1, hts⟩ hM ⟨va_cnB 0 hts (j_wsG hcode) rfl rfl rfl (h2.2.2.2.2.2 _ (j_nw m1)) (hts _ (j_in m3 rfl)) ⟨m5, m6, m7⟩ hrm, m4, hts _ (j_in m2 rfl)⟩
      (j_pre (y := y) (as := [.ref a]) h2) rfl rfl h5.1 rfl hcat hd ⟨by omega, by omega⟩
    exact j_after hmc hms hK h1 h2 h3 h4 h5 (j_ok_t h6) h7 h8 hr
  | false =>
    have hr := va_runI (p := p) (l := l) (e := e) (R := R) (s := s) (m := m) (args := args) (below := below) (meth := meth) (c := c) (H := H) (locs := locs) (cells := cells) (slots := slots) (As := []) (rest := st.map (j_rn α)) (b := α a) (g := F0 m pc lr ((Value.ref a :: st).map (j_rn α)))
      ⟨h1.1, h1.2.1, h1.2.2.1, h1.2.2.2.2.2.2.1, hts⟩ hM (cwI 0 hts (j_wsG hcode) rfl rfl rfl (hts _ (j_in m3 rfl)) (hts _ (j_in m1 rfl)) (hts _ (j_in m2 rfl)) m4 ⟨m5, m6, m7⟩ hrm)
      (j_pre (y := y) (as := [.ref a]) h2) rfl rfl h5.1 rfl hcat hd ⟨by omega, by omega⟩
    exact j_after hmc hms hK h1 h2 h3 h4 h5 (j_ok_t h6) h7 h8 hr
end JH
end
section
/-! the steps together, and runs of them -/
theorem j_pop_ok : ∀ (n : Nat) (as st : List Value) (k : List Value → List Value → Prop), j_pop n as st k → ∃ bs rest, st = bs.reverse ++ rest ∧ bs.length = n ∧ k (bs ++ as) rest
  | 0, as, st, k, h => ⟨[], st, rfl, rfl, h⟩
  | n + 1, as, [], k, h => h.elim
  | n + 1, as, v :: st, k, h => by
    obtain ⟨bs, rest, h1, h2, h3⟩ := j_pop_ok n (v :: as) st k h
    exact ⟨bs ++ [v], rest, by rw [h1]; simp, by simp [h2], by simpa using h3⟩
theorem j_ob_ok {s : Option j_S} {k : Nat → List j_K → Prop} (h : j_ob s k) : ∃ ci ks, s = some (.inr (ci, ks)) ∧ k ci ks := by
  unfold j_ob at h
  split at h
  next ci ks => exact ⟨ci, ks, rfl, h⟩
  next => exact h.elim
theorem j_ar_ok {s : Option j_S} {k : FieldType → Nat → Prop} (h : j_ar s k) : ∃ ty n, s = some (.inl (ty, n)) ∧ k ty n := by
  unfold j_ar at h
  split at h
  next ty n => exact ⟨ty, n, rfl, h⟩
  next => exact h.elim
theorem j_fo_ok {s : Option (Nat × Nat × Bool)} {k : Nat → Nat → Bool → Prop} (h : j_fo s k) : ∃ ci f b, s = some (ci, f, b) ∧ k ci f b := by
  unfold j_fo at h
  split at h
  next ci f b => exact ⟨ci, f, b, rfl, h⟩
  next => exact h.elim
theorem j_mo_ok {s : Option (MethodName × Nat × Bool × Nat)} {k : MethodName → Nat → Bool → Nat → Prop} (h : j_mo s k) : ∃ y n b ci, s = some (y, n, b, ci) ∧ k y n b ci := by
  unfold j_mo at h
  split at h
  next y n b ci => exact ⟨y, n, b, ci, rfl, h⟩
  next => exact h.elim
theorem j_pi_ok {st : List Value} {k : Int32 → List Value → Prop} (h : j_pi st k) : ∃ x r, st = .int x :: r ∧ k x r := by
  unfold j_pi at h
  split at h
  next x r => exact ⟨x, r, rfl, h⟩
  next => exact h.elim
theorem j_pii_ok {st : List Value} {k : Int32 → Int32 → List Value → Prop} (h : j_pii st k) : ∃ x y r, st = .int y :: .int x :: r ∧ k x y r := by
  unfold j_pii at h
  split at h
  next y x r => exact ⟨x, y, r, rfl, h⟩
  next => exact h.elim
theorem j_pl_ok {st : List Value} {k : Int64 → List Value → Prop} (h : j_pl st k) : ∃ x r, st = .long x :: r ∧ k x r := by
  unfold j_pl at h
  split at h
  next x r => exact ⟨x, r, rfl, h⟩
  next => exact h.elim
theorem j_pll_ok {st : List Value} {k : Int64 → Int64 → List Value → Prop} (h : j_pll st k) : ∃ x y r, st = .long y :: .long x :: r ∧ k x y r := by
  unfold j_pll at h
  split at h
  next y x r => exact ⟨x, y, r, rfl, h⟩
  next => exact h.elim
theorem j_pli_ok {st : List Value} {k : Int64 → Int32 → List Value → Prop} (h : j_pli st k) : ∃ x y r, st = .int y :: .long x :: r ∧ k x y r := by
  unfold j_pli at h
  split at h
  next y x r => exact ⟨x, y, r, rfl, h⟩
  next => exact h.elim
theorem j_pr_ok {st : List Value} {k : Nat → List Value → Prop} (h : j_pr st k) : ∃ x r, st = .ref x :: r ∧ k x r := by
  unfold j_pr at h
  split at h
  next x r => exact ⟨x, r, rfl, h⟩
  next => exact h.elim
theorem j_pri_ok {st : List Value} {k : Nat → Int32 → List Value → Prop} (h : j_pri st k) : ∃ a i r, st = .int i :: .ref a :: r ∧ k a i r := by
  unfold j_pri at h
  split at h
  next i a r => exact ⟨a, i, r, rfl, h⟩
  next => exact h.elim
theorem j_prii_ok {st : List Value} {k : Nat → Int32 → Int32 → List Value → Prop} (h : j_prii st k) : ∃ a i x r, st = .int x :: .int i :: .ref a :: r ∧ k a i x r := by
  unfold j_prii at h
  split at h
  next x i a r => exact ⟨a, i, x, r, rfl, h⟩
  next => exact h.elim
theorem j_gi_ok {x : Option Value} {k : Int32 → Prop} (h : j_gi x k) : ∃ v, x = some (.int v) ∧ k v := by
  unfold j_gi at h
  split at h
  next v => exact ⟨v, rfl, h⟩
  next => exact h.elim
theorem j_gl_ok {x : Option Value} {k : Int64 → Prop} (h : j_gl x k) : ∃ v, x = some (.long v) ∧ k v := by
  unfold j_gl at h
  split at h
  next v => exact ⟨v, rfl, h⟩
  next => exact h.elim
theorem j_ga_ok {x : Option Value} {k : Nat → Prop} (h : j_ga x k) : ∃ v, x = some (.ref v) ∧ k v := by
  unfold j_ga at h
  split at h
  next v => exact ⟨v, rfl, h⟩
  next => exact h.elim
theorem j_lo_ok {s : Option Int64} {k : Int64 → Prop} (h : j_lo s k) : ∃ x, s = some x ∧ k x := by
  unfold j_lo at h
  split at h
  next x => exact ⟨x, rfl, h⟩
  next => exact h.elim
theorem j_co_ok {s : Option (Nat × Nat)} {k : Nat → Nat → Prop} (h : j_co s k) : ∃ x y, s = some (x, y) ∧ k x y := by
  unfold j_co at h
  split at h
  next x y => exact ⟨x, y, rfl, h⟩
  next => exact h.elim
theorem j_no_ok {s : Option (MethodName × Bool)} {k : MethodName → Prop} (h : j_no s k) : ∃ y b, s = some (y, b) ∧ k y := by
  unfold j_no at h
  split at h
  next y b => exact ⟨y, b, rfl, h⟩
  next => exact h.elim
theorem j_scr_ok {s : Option (Nat × (Nat → Int32))} {k : Nat → (Nat → Int32) → Prop} (h : j_scr s k) : ∃ L f, s = some (L, f) ∧ k L f := by
  unfold j_scr at h
  split at h
  next L f => exact ⟨L, f, rfl, h⟩
  next => exact h.elim
theorem j_br_mono {c : ClassFile.Cond} {x y : Int32} {A B A' B' : Prop} (ha : A → A') (hb : B → B') (h : j_br c x y A B) : j_br c x y A' B' := by
  cases c <;> exact ⟨fun z => ha (h.1 z), fun z => hb (h.2 z)⟩
theorem j_tab_mono {x : Int32} {k k' : Int → Prop} (hk : ∀ o, k o → k' o) : ∀ (os : List Int) (lo : Int), j_tab x k os lo → j_tab x k' os lo
  | [], _, _ => trivial
  | _ :: os, lo, h => ⟨fun z => hk _ (h.1 z), j_tab_mono hk os (lo + 1) h.2⟩
theorem j_lku_mono {x : Int32} {dflt : Int} {k k' : Int → Prop} (hk : ∀ o, k o → k' o) : ∀ (ps : List (Int × Int)), j_lku x dflt k ps → j_lku x dflt k' ps
  | [], h => hk _ h
  | (_, _) :: r, h => ⟨fun z => hk _ (h.1 z), fun z => j_lku_mono hk r (h.2 z)⟩
theorem j_X_mono {d mc ms : Nat} {y : MethodName} {sh : List j_S} {as : List Value} {μ : j_M} {K K' : Nat → Nat → Option Int32 → List j_S → j_M → Prop} (hk : ∀ a b r sh' μ', K a b r sh' μ' → K' a b r sh' μ') (h : j_X d mc ms y sh as μ K) : j_X d mc ms y sh as μ K' := by
  obtain ⟨d1, mc1, ms1, Q1, g1, g2, g3, g4, g5⟩ := h
  exact ⟨d1, mc1, ms1, Q1, g1, g2, g3, g4, fun r sh' μ' z => hk _ _ _ _ _ (g5 r sh' μ' z)⟩
set_option maxHeartbeats 4000000 in
theorem j_step {cc : ByteArray} {o nL : Nat} {ret : Option FieldType} {ini : Bool} {d : Nat} {xs : Option (Nat × (Nat → Int32))} {Q : j_Q} {sh : List j_S} {mc ms pc : Nat} {ls : j_L} {st : List Value} {μ : j_M} {i : Instr} {len : Nat}
    {K : List j_S → Nat → Nat → Nat → j_L → List Value → j_M → Prop} (hK : ∀ sh mc ms pc ls st μ, K sh mc ms pc ls st μ → j_J cc o nL ret ini d xs Q sh mc ms pc ls st μ) (hd : decode cc pc = .ok (i, len)) (h : j_wp o ret ini d xs Q i len sh mc ms pc ls st μ K) : j_J cc o nL ret ini d xs Q sh mc ms pc ls st μ := by
  unfold j_wp at h
  split at h
  next => obtain ⟨rfl, h⟩ := h; exact js_iconst hd (hK _ _ _ _ _ _ _ h)
  next => obtain ⟨rfl, h⟩ := h; exact js_bipush hd (hK _ _ _ _ _ _ _ h)
  next => obtain ⟨rfl, h⟩ := h; exact js_sipush hd (hK _ _ _ _ _ _ _ h)
  next => obtain ⟨rfl, h⟩ := h; obtain ⟨x, e, h⟩ := j_lo_ok h; exact js_ldc2 e hd (hK _ _ _ _ _ _ _ h)
  next => obtain ⟨rfl, h⟩ := h; obtain ⟨x, e, h⟩ := j_gi_ok h; exact js_iload e hd (hK _ _ _ _ _ _ _ h)
  next => obtain ⟨rfl, h⟩ := h; obtain ⟨x, e, h⟩ := j_gi_ok h; exact js_iload_n e hd (hK _ _ _ _ _ _ _ h)
  next => obtain ⟨rfl, h⟩ := h; obtain ⟨x, e, h⟩ := j_gl_ok h; exact js_lload e hd (hK _ _ _ _ _ _ _ h)
  next => obtain ⟨rfl, h⟩ := h; obtain ⟨x, e, h⟩ := j_gl_ok h; exact js_lload_n e hd (hK _ _ _ _ _ _ _ h)
  next => obtain ⟨rfl, h⟩ := h; obtain ⟨x, e, h⟩ := j_ga_ok h; exact js_aload e hd (hK _ _ _ _ _ _ _ h)
  next => obtain ⟨rfl, h⟩ := h; obtain ⟨x, e, h⟩ := j_ga_ok h; exact js_aload_n e hd (hK _ _ _ _ _ _ _ h)
  next => obtain ⟨rfl, g, h⟩ := h; obtain ⟨x, r, rfl, h⟩ := j_pi_ok h; exact js_istore g hd (hK _ _ _ _ _ _ _ h)
  next => obtain ⟨rfl, g, h⟩ := h; obtain ⟨x, r, rfl, h⟩ := j_pi_ok h; exact js_istore_n g hd (hK _ _ _ _ _ _ _ h)
  next => obtain ⟨rfl, g, h⟩ := h; obtain ⟨x, r, rfl, h⟩ := j_pr_ok h; exact js_astore g hd (hK _ _ _ _ _ _ _ h)
  next => obtain ⟨rfl, g, h⟩ := h; obtain ⟨x, r, rfl, h⟩ := j_pr_ok h; exact js_astore_n g hd (hK _ _ _ _ _ _ _ h)
  next => obtain ⟨rfl, g, h⟩ := h; obtain ⟨x, r, rfl, h⟩ := j_pl_ok h; exact js_lstore g hd (hK _ _ _ _ _ _ _ h)
  next => obtain ⟨rfl, h⟩ := h; obtain ⟨x, e, h⟩ := j_gi_ok h; exact js_iinc e hd (hK _ _ _ _ _ _ _ h)
  next => obtain ⟨rfl, h⟩ := h; obtain ⟨x, y, r, rfl, h⟩ := j_pii_ok h; exact js_iadd hd (hK _ _ _ _ _ _ _ h)
  next => obtain ⟨rfl, h⟩ := h; obtain ⟨x, y, r, rfl, h⟩ := j_pii_ok h; exact js_isub hd (hK _ _ _ _ _ _ _ h)
  next => obtain ⟨rfl, h⟩ := h; obtain ⟨x, y, r, rfl, h⟩ := j_pii_ok h; exact js_imul hd (hK _ _ _ _ _ _ _ h)
  next => obtain ⟨rfl, h⟩ := h; obtain ⟨x, y, r, rfl, g, h⟩ := j_pii_ok h; exact js_idiv g hd (hK _ _ _ _ _ _ _ h)
  next => obtain ⟨rfl, h⟩ := h; obtain ⟨x, y, r, rfl, h⟩ := j_pii_ok h; exact js_iand hd (hK _ _ _ _ _ _ _ h)
  next => obtain ⟨rfl, h⟩ := h; obtain ⟨x, y, r, rfl, h⟩ := j_pii_ok h; exact js_ior hd (hK _ _ _ _ _ _ _ h)
  next => obtain ⟨rfl, h⟩ := h; obtain ⟨x, y, r, rfl, h⟩ := j_pii_ok h; exact js_ishl hd (hK _ _ _ _ _ _ _ h)
  next => obtain ⟨rfl, h⟩ := h; obtain ⟨x, y, r, rfl, h⟩ := j_pii_ok h; exact js_ishr hd (hK _ _ _ _ _ _ _ h)
  next => obtain ⟨rfl, h⟩ := h; obtain ⟨x, y, r, rfl, h⟩ := j_pii_ok h; exact js_iushr hd (hK _ _ _ _ _ _ _ h)
  next => obtain ⟨rfl, h⟩ := h; obtain ⟨x, y, r, rfl, h⟩ := j_pll_ok h; exact js_ladd hd (hK _ _ _ _ _ _ _ h)
  next => obtain ⟨rfl, h⟩ := h; obtain ⟨x, y, r, rfl, h⟩ := j_pll_ok h; exact js_lmul hd (hK _ _ _ _ _ _ _ h)
  next => obtain ⟨rfl, h⟩ := h; obtain ⟨x, y, r, rfl, g, h⟩ := j_pll_ok h; exact js_lrem g hd (hK _ _ _ _ _ _ _ h)
  next => obtain ⟨rfl, h⟩ := h; obtain ⟨x, y, r, rfl, h⟩ := j_pll_ok h; exact js_land hd (hK _ _ _ _ _ _ _ h)
  next => obtain ⟨rfl, h⟩ := h; obtain ⟨x, y, r, rfl, h⟩ := j_pll_ok h; exact js_lor hd (hK _ _ _ _ _ _ _ h)
  next => obtain ⟨rfl, h⟩ := h; obtain ⟨x, y, r, rfl, h⟩ := j_pli_ok h; exact js_lushr hd (hK _ _ _ _ _ _ _ h)
  next => obtain ⟨rfl, h⟩ := h; obtain ⟨x, y, r, rfl, h⟩ := j_pli_ok h; exact js_lshl hd (hK _ _ _ _ _ _ _ h)
  next => obtain ⟨rfl, h⟩ := h; obtain ⟨x, y, r, rfl, h⟩ := j_pll_ok h; exact js_lcmp hd (hK _ _ _ _ _ _ _ h)
  next => obtain ⟨rfl, h⟩ := h; obtain ⟨x, r, rfl, h⟩ := j_pi_ok h; exact js_i2l hd (hK _ _ _ _ _ _ _ h)
  next => obtain ⟨rfl, h⟩ := h; obtain ⟨x, r, rfl, h⟩ := j_pl_ok h; exact js_l2i hd (hK _ _ _ _ _ _ _ h)
  next => obtain ⟨rfl, h⟩ := h; obtain ⟨x, r, rfl, h⟩ := j_pi_ok h; exact js_i2b hd (hK _ _ _ _ _ _ _ h)
  next => obtain ⟨rfl, h⟩ := h; obtain ⟨x, r, rfl, h⟩ := j_pi_ok h; exact js_i2c hd (hK _ _ _ _ _ _ _ h)
  next =>
    obtain ⟨rfl, h⟩ := h
    split at h
    next => exact js_dupi hd (hK _ _ _ _ _ _ _ h)
    next => exact js_dupr hd (hK _ _ _ _ _ _ _ h)
    next => exact h.elim
  next => obtain ⟨rfl, h⟩ := h; obtain ⟨a, x, r, rfl, h⟩ := j_pri_ok h; exact js_dup2 hd (hK _ _ _ _ _ _ _ h)
  next => obtain ⟨rfl, g, h⟩ := h; exact js_goto g hd (hK _ _ _ _ _ _ _ h)
  next => obtain ⟨rfl, h⟩ := h; obtain ⟨x, r, rfl, g, h⟩ := j_pi_ok h; exact js_if g hd (j_br_mono (hK _ _ _ _ _ _ _) (hK _ _ _ _ _ _ _) h)
  next => obtain ⟨rfl, h⟩ := h; obtain ⟨x, y, r, rfl, g, h⟩ := j_pii_ok h; exact js_icmp g hd (j_br_mono (hK _ _ _ _ _ _ _) (hK _ _ _ _ _ _ _) h)
  next => obtain ⟨g, h⟩ := h; obtain ⟨x, r, rfl, h, h'⟩ := j_pi_ok h; exact js_table g hd (fun z => ⟨(h z).1, hK _ _ _ _ _ _ _ (h z).2⟩) (j_tab_mono (fun off z => ⟨z.1, hK _ _ _ _ _ _ _ z.2⟩) _ _ h')
  next => obtain ⟨g, h⟩ := h; obtain ⟨x, r, rfl, h⟩ := j_pi_ok h; exact js_lookup g hd (j_lku_mono (fun off z => ⟨z.1, hK _ _ _ _ _ _ _ z.2⟩) _ h)
  next =>
    obtain ⟨rfl, h⟩ := h
    obtain ⟨ci, f, b, e, k1⟩ := j_fo_ok h
    obtain ⟨a, r, e0, k2⟩ := j_pr_ok k1
    obtain ⟨ci', ks, e2, e1, k3⟩ := j_ob_ok k2
    clear h k1 k2
    subst e0
    subst e1
    unfold j_fd at k3
    split at k3
    next e3 => exact js_get e e2 e3 (v := .int (μ a f)) (fun _ => rfl) (j_iok _) hd (hK _ _ _ _ _ _ _ k3)
    next e3 => exact js_get e e2 e3 (v := .ref (μ a f).toNatClampNeg) (fun _ => rfl) (fun k hk => by cases hk; exact Or.inl k3.1) hd (hK _ _ _ _ _ _ _ k3.2)
    next => exact k3.elim
    next r e3 => exact js_get e e2 e3 (v := .ref r) (fun _ => rfl) (fun k hk => by cases hk; exact Or.inl k3.1) hd (hK _ _ _ _ _ _ _ k3.2)
    next => exact k3.elim
  next =>
    obtain ⟨rfl, h⟩ := h
    obtain ⟨ci, f, b, e, k1⟩ := j_fo_ok h
    clear h
    unfold j_pvr at k1
    split at k1
    next x a r =>
      obtain ⟨ci', ks, e2, e1, e4, g, k2⟩ := j_ob_ok k1
      clear k1
      subst e1
      subst e4
      unfold j_fd at k2
      split at k2
      next e3 => exact js_put e e2 e3 g hd (hK _ _ _ _ _ _ _ k2)
      next => exact k2.elim
      next => exact k2.elim
      next => exact k2.elim
      next => exact k2.elim
    next q a r =>
      obtain ⟨ci', ks, e2, e1, g0, g, k2⟩ := j_ob_ok k1
      clear k1
      subst e1
      split at k2
      next hb =>
        subst hb
        obtain ⟨g1, g2, k3⟩ := k2
        unfold j_fd at k3
        split at k3
        next => exact k3.elim
        next => exact k3.elim
        next e3 => exact js_putr e g1 g2 e2 e3 g hd (hK _ _ _ _ _ _ _ k3)
        next => exact k3.elim
        next => exact k3.elim
      next hb =>
        have hb' : b = false := by simpa using hb
        subst hb'
        obtain ⟨g1, k3⟩ := k2
        unfold j_fd at k3
        split at k3
        next => exact k3.elim
        next e3 => exact js_putv e e2 e3 g1 g hd (hK _ _ _ _ _ _ _ k3)
        next e3 => exact js_putw e e2 e3 g1 g hd (hK _ _ _ _ _ _ _ k3)
        next => exact k3.elim
        next => exact k3.elim
    next => exact k1.elim
  next =>
    obtain ⟨rfl, h⟩ := h
    obtain ⟨a, x, r, e0, k1⟩ := j_pri_ok h
    clear h
    subst e0
    split at k1
    next e => subst e; obtain ⟨L, f, e2, g, k2⟩ := j_scr_ok k1; exact js_sld e2 g hd (hK _ _ _ _ _ _ _ k2)
    next => obtain ⟨ty, n, e2, e3, g, k2⟩ := j_ar_ok k1; subst e3; exact js_iald e2 g hd (hK _ _ _ _ _ _ _ k2)
  next =>
    obtain ⟨rfl, h⟩ := h
    obtain ⟨a, x, r, rfl, h⟩ := j_pri_ok h
    obtain ⟨ty, n, e2, e3, g, h⟩ := j_ar_ok h
    rcases e3 with rfl | rfl
    · exact js_bald e2 g hd (hK _ _ _ _ _ _ _ h)
    · exact js_zald e2 g hd (hK _ _ _ _ _ _ _ h)
  next => obtain ⟨rfl, h⟩ := h; obtain ⟨a, x, r, rfl, h⟩ := j_pri_ok h; obtain ⟨ty, n, e2, rfl, g, h⟩ := j_ar_ok h; exact js_cald e2 g hd (hK _ _ _ _ _ _ _ h)
  next => obtain ⟨rfl, h⟩ := h; obtain ⟨a, x, r, rfl, h⟩ := j_pri_ok h; obtain ⟨ty, n, e2, rfl, g, h⟩ := j_ar_ok h; exact js_lald e2 g hd (hK _ _ _ _ _ _ _ h)
  next => obtain ⟨rfl, h⟩ := h; obtain ⟨a, i, x, r, rfl, h⟩ := j_prii_ok h; obtain ⟨ty, n, e2, rfl, g, h⟩ := j_ar_ok h; exact js_iast e2 g hd (hK _ _ _ _ _ _ _ h)
  next =>
    obtain ⟨rfl, h⟩ := h
    obtain ⟨a, i, x, r, rfl, h⟩ := j_prii_ok h
    obtain ⟨ty, n, e2, g, k1, k2, e3⟩ := j_ar_ok h
    rcases e3 with rfl | rfl
    · exact js_bast e2 g hd (hK _ _ _ _ _ _ _ (k1 rfl))
    · exact js_zast e2 g hd (hK _ _ _ _ _ _ _ (k2 rfl))
  next => obtain ⟨rfl, h⟩ := h; obtain ⟨a, i, x, r, rfl, h⟩ := j_prii_ok h; obtain ⟨ty, n, e2, rfl, g, h⟩ := j_ar_ok h; exact js_cast e2 g hd (hK _ _ _ _ _ _ _ h)
  next =>
    obtain ⟨rfl, h⟩ := h
    obtain ⟨a, r, e0, k1⟩ := j_pr_ok h
    clear h
    subst e0
    split at k1
    next e => subst e; obtain ⟨L, f, e2, k2⟩ := j_scr_ok k1; exact js_slen e2 hd (hK _ _ _ _ _ _ _ k2)
    next =>
      obtain ⟨ty, n, e2, e3, h⟩ := j_ar_ok k1
      rcases e3 with rfl | rfl | rfl | rfl
      · exact js_alen_int e2 hd (hK _ _ _ _ _ _ _ h)
      · exact js_alen_char e2 hd (hK _ _ _ _ _ _ _ h)
      · exact js_alen_byte e2 hd (hK _ _ _ _ _ _ _ h)
      · exact js_alen_boolean e2 hd (hK _ _ _ _ _ _ _ h)
  next => obtain ⟨rfl, h⟩ := h; obtain ⟨n, r, rfl, g1, g2, g3, g4, g5, g6, g7, h⟩ := j_pi_ok h; exact js_newarray g1 g2 g3 g4 g5 g6 g7 hd (hK _ _ _ _ _ _ _ h)
  next =>
    obtain ⟨rfl, h⟩ := h
    obtain ⟨y, n, b, ci, e, rfl, h⟩ := j_mo_ok h
    obtain ⟨bs, rest, rfl, e1, h⟩ := j_pop_ok _ _ _ _ h
    obtain ⟨a, r, rfl, h⟩ := j_pr_ok h
    obtain ⟨ci', ks, e2, rfl, g, h⟩ := j_ob_ok h
    rw [List.append_nil] at h
    exact j_virtual hd e e2 e1 g (j_X_mono (fun _ _ _ _ _ => hK _ _ _ _ _ _ _) h)
  next =>
    obtain ⟨rfl, h⟩ := h
    split at h
    next hm => obtain ⟨g, h⟩ := h; obtain ⟨x, y, r, rfl, g2, h⟩ := j_pii_ok h; exact js_min hm g g2 hd (hK _ _ _ _ _ _ _ h)
    next =>
      split at h
      next hm =>
        obtain ⟨g, h⟩ := h
        split at h
        next k dp a sp a0 r =>
          obtain ⟨rfl, e1, e2, e3, e4, e5, e6, h⟩ := h
          obtain ⟨ty, n0, f1, rfl, f2⟩ := j_ar_ok e4
          obtain ⟨ty, n1, f3, rfl, f4⟩ := j_ar_ok e5
          exact js_acp hm g e1 e2 e3 f1 f2 f3 f4 e6 hd (hK _ _ _ _ _ _ _ h)
        next => exact h.elim
      next =>
        obtain ⟨y, n, b, ci, e, rfl, h⟩ := j_mo_ok h
        obtain ⟨bs, rest, rfl, e1, g, h⟩ := j_pop_ok _ _ _ _ h
        rw [List.append_nil] at h
        exact j_static hd e e1 g (j_X_mono (fun _ _ _ _ _ => hK _ _ _ _ _ _ _) h)
  next => obtain ⟨rfl, h⟩ := h; obtain ⟨ci, N, e, g1, g2, g3, g4, h⟩ := j_co_ok h; exact js_new e g1 g2 g3 g4 hd (hK _ _ _ _ _ _ _ h)
  next =>
    obtain ⟨rfl, h⟩ := h
    obtain ⟨a, r, e0, g, k1⟩ := j_pr_ok h
    clear h
    subst e0
    split at k1
    next e => exact js_oinit e k1.1 g hd (hK _ _ _ _ _ _ _ k1.2)
    next => obtain ⟨y, b, e, k2⟩ := j_no_ok k1; exact js_init e g hd (j_X_mono (fun _ _ _ _ _ => hK _ _ _ _ _ _ _) k2)
  next =>
    obtain ⟨rfl, h⟩ := h
    split at h
    next => exact js_iret hd h.1 h.2
    next => exact h.elim
  next => obtain ⟨rfl, g, rfl, h⟩ := h; exact js_ret hd g h
  next => exact h.elim
/-- n instructions at the most, up to a stop (a loop's head) -/
def j_run (cc : ByteArray) (o nL : Nat) (ret : Option FieldType) (ini : Bool) (d : Nat) (xs : Option (Nat × (Nat → Int32))) (Q : j_Q) (stop : Nat → Bool) : Nat → List j_S → Nat → Nat → Nat → j_L → List Value → j_M → Prop
  | 0, sh, mc, ms, pc, ls, st, μ => j_J cc o nL ret ini d xs Q sh mc ms pc ls st μ
  | n + 1, sh, mc, ms, pc, ls, st, μ => match decode cc pc with
    | .ok (i, len) => j_wp o ret ini d xs Q i len sh mc ms pc ls st μ (fun sh mc ms pc ls st μ => if stop pc = true then j_J cc o nL ret ini d xs Q sh mc ms pc ls st μ else j_run cc o nL ret ini d xs Q stop n sh mc ms pc ls st μ)
    | .error _ => False
theorem j_go {cc : ByteArray} {o nL : Nat} {ret : Option FieldType} {ini : Bool} {d : Nat} {xs : Option (Nat × (Nat → Int32))} {Q : j_Q} (stop : Nat → Bool) : ∀ (n : Nat) {sh : List j_S} {mc ms pc : Nat} {ls : j_L} {st : List Value} {μ : j_M}, j_run cc o nL ret ini d xs Q stop n sh mc ms pc ls st μ → j_J cc o nL ret ini d xs Q sh mc ms pc ls st μ
  | 0, _, _, _, _, _, _, _, h => h
  | n + 1, sh, mc, ms, pc, ls, st, μ, h => by
    unfold j_run at h
    split at h
    next i len hd =>
      refine j_step (fun sh mc ms pc ls st μ hk => ?_) hd h
      split at hk
      · exact hk
      · exact j_go stop n hk
    next => exact h.elim
end
