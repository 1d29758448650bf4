section
-- ===== PART A: goes FIRST, ahead of the names: the tables' words, and 'selects' of the private methods out of them =====
/-- a private method of a class that the tables say can be made, by its rows of tables_1 -/
def lw_okq (q : MethodName × Nat) : Prop := (q.1.cls ≠ "java/lang/invoke/MethodHandle" ∧ q.1.cls ≠ "java/lang/invoke/VarHandle") ∧ Cond.instantiable q.1.cls q.2 ∈ tables_1 ∧ Cond.privateMethod q.1 ∈ tables_1 ∧ Cond.instanceMethod q.1 ∈ tables_1
theorem lw_p0 : lw_okq (⟨"DrownedNames", "textAt", "(I)LDrownedNames$Text;"⟩, 11) := ⟨⟨by decide +kernel, by decide +kernel⟩, List.mem_of_getElem? (i := 18) (by decide +kernel), List.mem_of_getElem? (i := 280) (by decide +kernel), List.mem_of_getElem? (i := 281) (by decide +kernel)⟩
theorem lw_p1 : lw_okq (⟨"DrownedNames", "settle", "()V"⟩, 11) := ⟨⟨by decide +kernel, by decide +kernel⟩, List.mem_of_getElem? (i := 18) (by decide +kernel), List.mem_of_getElem? (i := 296) (by decide +kernel), List.mem_of_getElem? (i := 297) (by decide +kernel)⟩
theorem lw_p2 : lw_okq (⟨"DrownedNames$Text", "goesOnAt", "(I)Z"⟩, 4) := ⟨⟨by decide +kernel, by decide +kernel⟩, List.mem_of_getElem? (i := 26) (by decide +kernel), List.mem_of_getElem? (i := 312) (by decide +kernel), List.mem_of_getElem? (i := 313) (by decide +kernel)⟩
theorem lw_p3 : lw_okq (⟨"DrownedNames$Harbour", "bearerOf", "(II)I"⟩, 13) := ⟨⟨by decide +kernel, by decide +kernel⟩, List.mem_of_getElem? (i := 87) (by decide +kernel), List.mem_of_getElem? (i := 386) (by decide +kernel), List.mem_of_getElem? (i := 387) (by decide +kernel)⟩
theorem lw_p4 : lw_okq (⟨"DrownedNames$Harbour", "isVoid", "(II)Z"⟩, 13) := ⟨⟨by decide +kernel, by decide +kernel⟩, List.mem_of_getElem? (i := 87) (by decide +kernel), List.mem_of_getElem? (i := 394) (by decide +kernel), List.mem_of_getElem? (i := 395) (by decide +kernel)⟩
theorem lw_p5 : lw_okq (⟨"DrownedNames$Harbour", "dueOfLine", "(II)I"⟩, 13) := ⟨⟨by decide +kernel, by decide +kernel⟩, List.mem_of_getElem? (i := 87) (by decide +kernel), List.mem_of_getElem? (i := 402) (by decide +kernel), List.mem_of_getElem? (i := 403) (by decide +kernel)⟩
theorem lw_p6 : lw_okq (⟨"DrownedNames", "sheetAt", "(I)LDrownedNames$Sheet;"⟩, 11) := ⟨⟨by decide +kernel, by decide +kernel⟩, List.mem_of_getElem? (i := 18) (by decide +kernel), List.mem_of_getElem? (i := 472) (by decide +kernel), List.mem_of_getElem? (i := 473) (by decide +kernel)⟩
theorem lw_p7 : lw_okq (⟨"DrownedNames", "found", "(I)I"⟩, 11) := ⟨⟨by decide +kernel, by decide +kernel⟩, List.mem_of_getElem? (i := 18) (by decide +kernel), List.mem_of_getElem? (i := 476) (by decide +kernel), List.mem_of_getElem? (i := 477) (by decide +kernel)⟩
theorem lw_p8 : lw_okq (⟨"DrownedNames$Reckoning", "begin", "()V"⟩, 7) := ⟨⟨by decide +kernel, by decide +kernel⟩, List.mem_of_getElem? (i := 155) (by decide +kernel), List.mem_of_getElem? (i := 508) (by decide +kernel), List.mem_of_getElem? (i := 509) (by decide +kernel)⟩
theorem lw_p9 : lw_okq (⟨"DrownedNames$Reckoning", "sink", "(III)V"⟩, 7) := ⟨⟨by decide +kernel, by decide +kernel⟩, List.mem_of_getElem? (i := 155) (by decide +kernel), List.mem_of_getElem? (i := 518) (by decide +kernel), List.mem_of_getElem? (i := 519) (by decide +kernel)⟩
theorem lw_p10 : lw_okq (⟨"DrownedNames$Reckoning", "isLost", "(I)Z"⟩, 7) := ⟨⟨by decide +kernel, by decide +kernel⟩, List.mem_of_getElem? (i := 155) (by decide +kernel), List.mem_of_getElem? (i := 523) (by decide +kernel), List.mem_of_getElem? (i := 524) (by decide +kernel)⟩
theorem lw_p11 : lw_okq (⟨"DrownedNames$Reckoning", "breakName", "(II)V"⟩, 7) := ⟨⟨by decide +kernel, by decide +kernel⟩, List.mem_of_getElem? (i := 155) (by decide +kernel), List.mem_of_getElem? (i := 529) (by decide +kernel), List.mem_of_getElem? (i := 530) (by decide +kernel)⟩
theorem lw_p12 : lw_okq (⟨"DrownedNames$Evidence", "fitsAllSeen", "(I)Z"⟩, 7) := ⟨⟨by decide +kernel, by decide +kernel⟩, List.mem_of_getElem? (i := 189) (by decide +kernel), List.mem_of_getElem? (i := 592) (by decide +kernel), List.mem_of_getElem? (i := 593) (by decide +kernel)⟩
theorem lw_p13 : lw_okq (⟨"DrownedNames$Evidence", "greatestGroup", "(I)I"⟩, 7) := ⟨⟨by decide +kernel, by decide +kernel⟩, List.mem_of_getElem? (i := 189) (by decide +kernel), List.mem_of_getElem? (i := 605) (by decide +kernel), List.mem_of_getElem? (i := 606) (by decide +kernel)⟩
theorem lw_p14 : lw_okq (⟨"DrownedNames$Sheet", "narrowed", "(I)I"⟩, 4) := ⟨⟨by decide +kernel, by decide +kernel⟩, List.mem_of_getElem? (i := 219) (by decide +kernel), List.mem_of_getElem? (i := 670) (by decide +kernel), List.mem_of_getElem? (i := 671) (by decide +kernel)⟩
theorem lw_p15 : lw_okq (⟨"DrownedNames", "withShip", "(JI)J"⟩, 11) := ⟨⟨by decide +kernel, by decide +kernel⟩, List.mem_of_getElem? (i := 18) (by decide +kernel), List.mem_of_getElem? (i := 705) (by decide +kernel), List.mem_of_getElem? (i := 706) (by decide +kernel)⟩
def lw_privs_1 : List (MethodName × Nat) := [(⟨"DrownedNames", "textAt", "(I)LDrownedNames$Text;"⟩, 11), (⟨"DrownedNames", "settle", "()V"⟩, 11), (⟨"DrownedNames$Text", "goesOnAt", "(I)Z"⟩, 4), (⟨"DrownedNames$Harbour", "bearerOf", "(II)I"⟩, 13), (⟨"DrownedNames$Harbour", "isVoid", "(II)Z"⟩, 13), (⟨"DrownedNames$Harbour", "dueOfLine", "(II)I"⟩, 13), (⟨"DrownedNames", "sheetAt", "(I)LDrownedNames$Sheet;"⟩, 11), (⟨"DrownedNames", "found", "(I)I"⟩, 11), (⟨"DrownedNames$Reckoning", "begin", "()V"⟩, 7), (⟨"DrownedNames$Reckoning", "sink", "(III)V"⟩, 7), (⟨"DrownedNames$Reckoning", "isLost", "(I)Z"⟩, 7), (⟨"DrownedNames$Reckoning", "breakName", "(II)V"⟩, 7), (⟨"DrownedNames$Evidence", "fitsAllSeen", "(I)Z"⟩, 7), (⟨"DrownedNames$Evidence", "greatestGroup", "(I)I"⟩, 7), (⟨"DrownedNames$Sheet", "narrowed", "(I)I"⟩, 4), (⟨"DrownedNames", "withShip", "(JI)J"⟩, 11)]
theorem lw_r1 : ∀ q ∈ lw_privs_1, lw_okq q := List.forall_mem_cons.mpr ⟨lw_p0, List.forall_mem_cons.mpr ⟨lw_p1, List.forall_mem_cons.mpr ⟨lw_p2, List.forall_mem_cons.mpr ⟨lw_p3, List.forall_mem_cons.mpr ⟨lw_p4, List.forall_mem_cons.mpr ⟨lw_p5, List.forall_mem_cons.mpr ⟨lw_p6, List.forall_mem_cons.mpr ⟨lw_p7, List.forall_mem_cons.mpr ⟨lw_p8, List.forall_mem_cons.mpr ⟨lw_p9, List.forall_mem_cons.mpr ⟨lw_p10, List.forall_mem_cons.mpr ⟨lw_p11, List.forall_mem_cons.mpr ⟨lw_p12, List.forall_mem_cons.mpr ⟨lw_p13, List.forall_mem_cons.mpr ⟨lw_p14, List.forall_mem_cons.mpr ⟨lw_p15, fun _ h => absurd h List.not_mem_nil⟩⟩⟩⟩⟩⟩⟩⟩⟩⟩⟩⟩⟩⟩⟩⟩
theorem lw_p16 : lw_okq (⟨"DrownedNames", "withName", "(JI)J"⟩, 11) := ⟨⟨by decide +kernel, by decide +kernel⟩, List.mem_of_getElem? (i := 18) (by decide +kernel), List.mem_of_getElem? (i := 714) (by decide +kernel), List.mem_of_getElem? (i := 715) (by decide +kernel)⟩
theorem lw_p17 : lw_okq (⟨"DrownedNames", "withYear", "(JI)J"⟩, 11) := ⟨⟨by decide +kernel, by decide +kernel⟩, List.mem_of_getElem? (i := 18) (by decide +kernel), List.mem_of_getElem? (i := 726) (by decide +kernel), List.mem_of_getElem? (i := 727) (by decide +kernel)⟩
theorem lw_p18 : lw_okq (⟨"DrownedNamesModel", "finds", "(I)I"⟩, 26) := ⟨⟨by decide +kernel, by decide +kernel⟩, List.mem_of_getElem? (i := 735) (by decide +kernel), List.mem_of_getElem? (i := 832) (by decide +kernel), List.mem_of_getElem? (i := 833) (by decide +kernel)⟩
theorem lw_p19 : lw_okq (⟨"DrownedNamesModel", "lacks", "(III)I"⟩, 26) := ⟨⟨by decide +kernel, by decide +kernel⟩, List.mem_of_getElem? (i := 735) (by decide +kernel), List.mem_of_getElem? (i := 844) (by decide +kernel), List.mem_of_getElem? (i := 845) (by decide +kernel)⟩
theorem lw_p20 : lw_okq (⟨"DrownedNamesModel", "readsText", "(I)I"⟩, 26) := ⟨⟨by decide +kernel, by decide +kernel⟩, List.mem_of_getElem? (i := 735) (by decide +kernel), List.mem_of_getElem? (i := 880) (by decide +kernel), List.mem_of_getElem? (i := 881) (by decide +kernel)⟩
theorem lw_p21 : lw_okq (⟨"DrownedNamesModel", "readsThing", "(I)Z"⟩, 26) := ⟨⟨by decide +kernel, by decide +kernel⟩, List.mem_of_getElem? (i := 735) (by decide +kernel), List.mem_of_getElem? (i := 884) (by decide +kernel), List.mem_of_getElem? (i := 885) (by decide +kernel)⟩
theorem lw_p22 : lw_okq (⟨"DrownedNamesModel", "readsShip", "()Z"⟩, 26) := ⟨⟨by decide +kernel, by decide +kernel⟩, List.mem_of_getElem? (i := 735) (by decide +kernel), List.mem_of_getElem? (i := 888) (by decide +kernel), List.mem_of_getElem? (i := 889) (by decide +kernel)⟩
theorem lw_p23 : lw_okq (⟨"DrownedNamesModel", "twoFigures", "(II)I"⟩, 26) := ⟨⟨by decide +kernel, by decide +kernel⟩, List.mem_of_getElem? (i := 735) (by decide +kernel), List.mem_of_getElem? (i := 892) (by decide +kernel), List.mem_of_getElem? (i := 893) (by decide +kernel)⟩
theorem lw_p24 : lw_okq (⟨"DrownedNamesModel", "passes", "(III)I"⟩, 26) := ⟨⟨by decide +kernel, by decide +kernel⟩, List.mem_of_getElem? (i := 735) (by decide +kernel), List.mem_of_getElem? (i := 896) (by decide +kernel), List.mem_of_getElem? (i := 897) (by decide +kernel)⟩
theorem lw_p25 : lw_okq (⟨"DrownedNamesModel", "units", "(II)I"⟩, 26) := ⟨⟨by decide +kernel, by decide +kernel⟩, List.mem_of_getElem? (i := 735) (by decide +kernel), List.mem_of_getElem? (i := 900) (by decide +kernel), List.mem_of_getElem? (i := 901) (by decide +kernel)⟩
theorem lw_p26 : lw_okq (⟨"DrownedNamesModel", "readsName", "()Z"⟩, 26) := ⟨⟨by decide +kernel, by decide +kernel⟩, List.mem_of_getElem? (i := 735) (by decide +kernel), List.mem_of_getElem? (i := 904) (by decide +kernel), List.mem_of_getElem? (i := 905) (by decide +kernel)⟩
theorem lw_p27 : lw_okq (⟨"DrownedNamesModel", "readsLine", "()Z"⟩, 26) := ⟨⟨by decide +kernel, by decide +kernel⟩, List.mem_of_getElem? (i := 735) (by decide +kernel), List.mem_of_getElem? (i := 908) (by decide +kernel), List.mem_of_getElem? (i := 909) (by decide +kernel)⟩
theorem lw_p28 : lw_okq (⟨"DrownedNamesModel", "reads", "()V"⟩, 26) := ⟨⟨by decide +kernel, by decide +kernel⟩, List.mem_of_getElem? (i := 735) (by decide +kernel), List.mem_of_getElem? (i := 916) (by decide +kernel), List.mem_of_getElem? (i := 917) (by decide +kernel)⟩
theorem lw_p29 : lw_okq (⟨"DrownedNamesModel", "isShip", "(I)Z"⟩, 26) := ⟨⟨by decide +kernel, by decide +kernel⟩, List.mem_of_getElem? (i := 735) (by decide +kernel), List.mem_of_getElem? (i := 920) (by decide +kernel), List.mem_of_getElem? (i := 921) (by decide +kernel)⟩
theorem lw_p30 : lw_okq (⟨"DrownedNamesModel", "isName", "(I)Z"⟩, 26) := ⟨⟨by decide +kernel, by decide +kernel⟩, List.mem_of_getElem? (i := 735) (by decide +kernel), List.mem_of_getElem? (i := 931) (by decide +kernel), List.mem_of_getElem? (i := 932) (by decide +kernel)⟩
theorem lw_p31 : lw_okq (⟨"DrownedNamesModel", "lineOf", "(II)I"⟩, 26) := ⟨⟨by decide +kernel, by decide +kernel⟩, List.mem_of_getElem? (i := 735) (by decide +kernel), List.mem_of_getElem? (i := 943) (by decide +kernel), List.mem_of_getElem? (i := 944) (by decide +kernel)⟩
def lw_privs_2 : List (MethodName × Nat) := [(⟨"DrownedNames", "withName", "(JI)J"⟩, 11), (⟨"DrownedNames", "withYear", "(JI)J"⟩, 11), (⟨"DrownedNamesModel", "finds", "(I)I"⟩, 26), (⟨"DrownedNamesModel", "lacks", "(III)I"⟩, 26), (⟨"DrownedNamesModel", "readsText", "(I)I"⟩, 26), (⟨"DrownedNamesModel", "readsThing", "(I)Z"⟩, 26), (⟨"DrownedNamesModel", "readsShip", "()Z"⟩, 26), (⟨"DrownedNamesModel", "twoFigures", "(II)I"⟩, 26), (⟨"DrownedNamesModel", "passes", "(III)I"⟩, 26), (⟨"DrownedNamesModel", "units", "(II)I"⟩, 26), (⟨"DrownedNamesModel", "readsName", "()Z"⟩, 26), (⟨"DrownedNamesModel", "readsLine", "()Z"⟩, 26), (⟨"DrownedNamesModel", "reads", "()V"⟩, 26), (⟨"DrownedNamesModel", "isShip", "(I)Z"⟩, 26), (⟨"DrownedNamesModel", "isName", "(I)Z"⟩, 26), (⟨"DrownedNamesModel", "lineOf", "(II)I"⟩, 26)]
theorem lw_r2 : ∀ q ∈ lw_privs_2, lw_okq q := List.forall_mem_cons.mpr ⟨lw_p16, List.forall_mem_cons.mpr ⟨lw_p17, List.forall_mem_cons.mpr ⟨lw_p18, List.forall_mem_cons.mpr ⟨lw_p19, List.forall_mem_cons.mpr ⟨lw_p20, List.forall_mem_cons.mpr ⟨lw_p21, List.forall_mem_cons.mpr ⟨lw_p22, List.forall_mem_cons.mpr ⟨lw_p23, List.forall_mem_cons.mpr ⟨lw_p24, List.forall_mem_cons.mpr ⟨lw_p25, List.forall_mem_cons.mpr ⟨lw_p26, List.forall_mem_cons.mpr ⟨lw_p27, List.forall_mem_cons.mpr ⟨lw_p28, List.forall_mem_cons.mpr ⟨lw_p29, List.forall_mem_cons.mpr ⟨lw_p30, List.forall_mem_cons.mpr ⟨lw_p31, fun _ h => absurd h List.not_mem_nil⟩⟩⟩⟩⟩⟩⟩⟩⟩⟩⟩⟩⟩⟩⟩⟩
theorem lw_p32 : lw_okq (⟨"DrownedNamesModel", "dueOf", "(I)I"⟩, 26) := ⟨⟨by decide +kernel, by decide +kernel⟩, List.mem_of_getElem? (i := 735) (by decide +kernel), List.mem_of_getElem? (i := 947) (by decide +kernel), List.mem_of_getElem? (i := 948) (by decide +kernel)⟩
theorem lw_p33 : lw_okq (⟨"DrownedNamesModel", "stands", "(I)Z"⟩, 26) := ⟨⟨by decide +kernel, by decide +kernel⟩, List.mem_of_getElem? (i := 735) (by decide +kernel), List.mem_of_getElem? (i := 951) (by decide +kernel), List.mem_of_getElem? (i := 952) (by decide +kernel)⟩
theorem lw_p34 : lw_okq (⟨"DrownedNamesModel", "bearerBy", "(II)I"⟩, 26) := ⟨⟨by decide +kernel, by decide +kernel⟩, List.mem_of_getElem? (i := 735) (by decide +kernel), List.mem_of_getElem? (i := 962) (by decide +kernel), List.mem_of_getElem? (i := 963) (by decide +kernel)⟩
theorem lw_p35 : lw_okq (⟨"DrownedNamesModel", "bearerOf", "(I)I"⟩, 26) := ⟨⟨by decide +kernel, by decide +kernel⟩, List.mem_of_getElem? (i := 735) (by decide +kernel), List.mem_of_getElem? (i := 966) (by decide +kernel), List.mem_of_getElem? (i := 967) (by decide +kernel)⟩
theorem lw_p36 : lw_okq (⟨"DrownedNamesModel", "bearersOf", "(I)I"⟩, 26) := ⟨⟨by decide +kernel, by decide +kernel⟩, List.mem_of_getElem? (i := 735) (by decide +kernel), List.mem_of_getElem? (i := 970) (by decide +kernel), List.mem_of_getElem? (i := 971) (by decide +kernel)⟩
theorem lw_p37 : lw_okq (⟨"DrownedNamesModel", "borneOf", "(II)I"⟩, 26) := ⟨⟨by decide +kernel, by decide +kernel⟩, List.mem_of_getElem? (i := 735) (by decide +kernel), List.mem_of_getElem? (i := 978) (by decide +kernel), List.mem_of_getElem? (i := 979) (by decide +kernel)⟩
theorem lw_p38 : lw_okq (⟨"DrownedNamesModel", "leftOf", "(II)I"⟩, 26) := ⟨⟨by decide +kernel, by decide +kernel⟩, List.mem_of_getElem? (i := 735) (by decide +kernel), List.mem_of_getElem? (i := 1008) (by decide +kernel), List.mem_of_getElem? (i := 1009) (by decide +kernel)⟩
theorem lw_p39 : lw_okq (⟨"DrownedNamesModel", "lives", "(I)V"⟩, 26) := ⟨⟨by decide +kernel, by decide +kernel⟩, List.mem_of_getElem? (i := 735) (by decide +kernel), List.mem_of_getElem? (i := 1012) (by decide +kernel), List.mem_of_getElem? (i := 1013) (by decide +kernel)⟩
theorem lw_p40 : lw_okq (⟨"DrownedNamesModel", "begins", "()V"⟩, 26) := ⟨⟨by decide +kernel, by decide +kernel⟩, List.mem_of_getElem? (i := 735) (by decide +kernel), List.mem_of_getElem? (i := 1016) (by decide +kernel), List.mem_of_getElem? (i := 1017) (by decide +kernel)⟩
theorem lw_p41 : lw_okq (⟨"DrownedNamesModel", "goes", "(II)V"⟩, 26) := ⟨⟨by decide +kernel, by decide +kernel⟩, List.mem_of_getElem? (i := 735) (by decide +kernel), List.mem_of_getElem? (i := 1020) (by decide +kernel), List.mem_of_getElem? (i := 1021) (by decide +kernel)⟩
theorem lw_p42 : lw_okq (⟨"DrownedNamesModel", "behindOf", "(II)I"⟩, 26) := ⟨⟨by decide +kernel, by decide +kernel⟩, List.mem_of_getElem? (i := 735) (by decide +kernel), List.mem_of_getElem? (i := 1031) (by decide +kernel), List.mem_of_getElem? (i := 1032) (by decide +kernel)⟩
theorem lw_p43 : lw_okq (⟨"DrownedNamesModel", "paidOf", "(II)I"⟩, 26) := ⟨⟨by decide +kernel, by decide +kernel⟩, List.mem_of_getElem? (i := 735) (by decide +kernel), List.mem_of_getElem? (i := 1039) (by decide +kernel), List.mem_of_getElem? (i := 1040) (by decide +kernel)⟩
theorem lw_p44 : lw_okq (⟨"DrownedNamesModel", "firstOf", "(I)I"⟩, 26) := ⟨⟨by decide +kernel, by decide +kernel⟩, List.mem_of_getElem? (i := 735) (by decide +kernel), List.mem_of_getElem? (i := 1047) (by decide +kernel), List.mem_of_getElem? (i := 1048) (by decide +kernel)⟩
theorem lw_p45 : lw_okq (⟨"DrownedNamesModel", "safeNow", "()I"⟩, 26) := ⟨⟨by decide +kernel, by decide +kernel⟩, List.mem_of_getElem? (i := 735) (by decide +kernel), List.mem_of_getElem? (i := 1055) (by decide +kernel), List.mem_of_getElem? (i := 1056) (by decide +kernel)⟩
theorem lw_p46 : lw_okq (⟨"DrownedNamesModel", "alone", "(I)V"⟩, 26) := ⟨⟨by decide +kernel, by decide +kernel⟩, List.mem_of_getElem? (i := 735) (by decide +kernel), List.mem_of_getElem? (i := 1059) (by decide +kernel), List.mem_of_getElem? (i := 1060) (by decide +kernel)⟩
theorem lw_p47 : lw_okq (⟨"DrownedNamesModel", "takeOf", "(I)I"⟩, 26) := ⟨⟨by decide +kernel, by decide +kernel⟩, List.mem_of_getElem? (i := 735) (by decide +kernel), List.mem_of_getElem? (i := 1067) (by decide +kernel), List.mem_of_getElem? (i := 1068) (by decide +kernel)⟩
def lw_privs_3 : List (MethodName × Nat) := [(⟨"DrownedNamesModel", "dueOf", "(I)I"⟩, 26), (⟨"DrownedNamesModel", "stands", "(I)Z"⟩, 26), (⟨"DrownedNamesModel", "bearerBy", "(II)I"⟩, 26), (⟨"DrownedNamesModel", "bearerOf", "(I)I"⟩, 26), (⟨"DrownedNamesModel", "bearersOf", "(I)I"⟩, 26), (⟨"DrownedNamesModel", "borneOf", "(II)I"⟩, 26), (⟨"DrownedNamesModel", "leftOf", "(II)I"⟩, 26), (⟨"DrownedNamesModel", "lives", "(I)V"⟩, 26), (⟨"DrownedNamesModel", "begins", "()V"⟩, 26), (⟨"DrownedNamesModel", "goes", "(II)V"⟩, 26), (⟨"DrownedNamesModel", "behindOf", "(II)I"⟩, 26), (⟨"DrownedNamesModel", "paidOf", "(II)I"⟩, 26), (⟨"DrownedNamesModel", "firstOf", "(I)I"⟩, 26), (⟨"DrownedNamesModel", "safeNow", "()I"⟩, 26), (⟨"DrownedNamesModel", "alone", "(I)V"⟩, 26), (⟨"DrownedNamesModel", "takeOf", "(I)I"⟩, 26)]
theorem lw_r3 : ∀ q ∈ lw_privs_3, lw_okq q := List.forall_mem_cons.mpr ⟨lw_p32, List.forall_mem_cons.mpr ⟨lw_p33, List.forall_mem_cons.mpr ⟨lw_p34, List.forall_mem_cons.mpr ⟨lw_p35, List.forall_mem_cons.mpr ⟨lw_p36, List.forall_mem_cons.mpr ⟨lw_p37, List.forall_mem_cons.mpr ⟨lw_p38, List.forall_mem_cons.mpr ⟨lw_p39, List.forall_mem_cons.mpr ⟨lw_p40, List.forall_mem_cons.mpr ⟨lw_p41, List.forall_mem_cons.mpr ⟨lw_p42, List.forall_mem_cons.mpr ⟨lw_p43, List.forall_mem_cons.mpr ⟨lw_p44, List.forall_mem_cons.mpr ⟨lw_p45, List.forall_mem_cons.mpr ⟨lw_p46, List.forall_mem_cons.mpr ⟨lw_p47, fun _ h => absurd h List.not_mem_nil⟩⟩⟩⟩⟩⟩⟩⟩⟩⟩⟩⟩⟩⟩⟩⟩
theorem lw_p48 : lw_okq (⟨"DrownedNamesModel", "haveAll", "(I)I"⟩, 26) := ⟨⟨by decide +kernel, by decide +kernel⟩, List.mem_of_getElem? (i := 735) (by decide +kernel), List.mem_of_getElem? (i := 1071) (by decide +kernel), List.mem_of_getElem? (i := 1072) (by decide +kernel)⟩
theorem lw_p49 : lw_okq (⟨"DrownedNamesModel", "strikeOf", "(II)I"⟩, 26) := ⟨⟨by decide +kernel, by decide +kernel⟩, List.mem_of_getElem? (i := 735) (by decide +kernel), List.mem_of_getElem? (i := 1082) (by decide +kernel), List.mem_of_getElem? (i := 1083) (by decide +kernel)⟩
theorem lw_p50 : lw_okq (⟨"DrownedNamesModel", "borneAll", "(I)I"⟩, 26) := ⟨⟨by decide +kernel, by decide +kernel⟩, List.mem_of_getElem? (i := 735) (by decide +kernel), List.mem_of_getElem? (i := 1086) (by decide +kernel), List.mem_of_getElem? (i := 1087) (by decide +kernel)⟩
theorem lw_p51 : lw_okq (⟨"DrownedNamesModel", "soundOf", "(I)I"⟩, 26) := ⟨⟨by decide +kernel, by decide +kernel⟩, List.mem_of_getElem? (i := 735) (by decide +kernel), List.mem_of_getElem? (i := 1103) (by decide +kernel), List.mem_of_getElem? (i := 1104) (by decide +kernel)⟩
theorem lw_p52 : lw_okq (⟨"DrownedNamesModel", "isSeen", "(I)Z"⟩, 26) := ⟨⟨by decide +kernel, by decide +kernel⟩, List.mem_of_getElem? (i := 735) (by decide +kernel), List.mem_of_getElem? (i := 1107) (by decide +kernel), List.mem_of_getElem? (i := 1108) (by decide +kernel)⟩
theorem lw_p53 : lw_okq (⟨"DrownedNamesModel", "pressNow", "()I"⟩, 26) := ⟨⟨by decide +kernel, by decide +kernel⟩, List.mem_of_getElem? (i := 735) (by decide +kernel), List.mem_of_getElem? (i := 1115) (by decide +kernel), List.mem_of_getElem? (i := 1116) (by decide +kernel)⟩
theorem lw_p54 : lw_okq (⟨"DrownedNamesModel", "mostAlike", "(I)I"⟩, 26) := ⟨⟨by decide +kernel, by decide +kernel⟩, List.mem_of_getElem? (i := 735) (by decide +kernel), List.mem_of_getElem? (i := 1119) (by decide +kernel), List.mem_of_getElem? (i := 1120) (by decide +kernel)⟩
theorem lw_p55 : lw_okq (⟨"DrownedNamesModel", "fairOf", "(II)J"⟩, 26) := ⟨⟨by decide +kernel, by decide +kernel⟩, List.mem_of_getElem? (i := 735) (by decide +kernel), List.mem_of_getElem? (i := 1127) (by decide +kernel), List.mem_of_getElem? (i := 1128) (by decide +kernel)⟩
theorem lw_p56 : lw_okq (⟨"DrownedNamesModel", "stormOf", "(III)J"⟩, 26) := ⟨⟨by decide +kernel, by decide +kernel⟩, List.mem_of_getElem? (i := 735) (by decide +kernel), List.mem_of_getElem? (i := 1144) (by decide +kernel), List.mem_of_getElem? (i := 1145) (by decide +kernel)⟩
theorem lw_p57 : lw_okq (⟨"DrownedNamesModel", "yearsOf", "(IIII)I"⟩, 26) := ⟨⟨by decide +kernel, by decide +kernel⟩, List.mem_of_getElem? (i := 735) (by decide +kernel), List.mem_of_getElem? (i := 1153) (by decide +kernel), List.mem_of_getElem? (i := 1154) (by decide +kernel)⟩
theorem lw_p58 : lw_okq (⟨"DrownedNamesModel", "lot", "(I)I"⟩, 26) := ⟨⟨by decide +kernel, by decide +kernel⟩, List.mem_of_getElem? (i := 735) (by decide +kernel), List.mem_of_getElem? (i := 1157) (by decide +kernel), List.mem_of_getElem? (i := 1158) (by decide +kernel)⟩
theorem lw_p59 : lw_okq (⟨"DrownedNamesModel", "tellsShip", "(JI)J"⟩, 26) := ⟨⟨by decide +kernel, by decide +kernel⟩, List.mem_of_getElem? (i := 735) (by decide +kernel), List.mem_of_getElem? (i := 1177) (by decide +kernel), List.mem_of_getElem? (i := 1178) (by decide +kernel)⟩
theorem lw_p60 : lw_okq (⟨"DrownedNamesModel", "tellsName", "(JI)J"⟩, 26) := ⟨⟨by decide +kernel, by decide +kernel⟩, List.mem_of_getElem? (i := 735) (by decide +kernel), List.mem_of_getElem? (i := 1182) (by decide +kernel), List.mem_of_getElem? (i := 1183) (by decide +kernel)⟩
def lw_privs_4 : List (MethodName × Nat) := [(⟨"DrownedNamesModel", "haveAll", "(I)I"⟩, 26), (⟨"DrownedNamesModel", "strikeOf", "(II)I"⟩, 26), (⟨"DrownedNamesModel", "borneAll", "(I)I"⟩, 26), (⟨"DrownedNamesModel", "soundOf", "(I)I"⟩, 26), (⟨"DrownedNamesModel", "isSeen", "(I)Z"⟩, 26), (⟨"DrownedNamesModel", "pressNow", "()I"⟩, 26), (⟨"DrownedNamesModel", "mostAlike", "(I)I"⟩, 26), (⟨"DrownedNamesModel", "fairOf", "(II)J"⟩, 26), (⟨"DrownedNamesModel", "stormOf", "(III)J"⟩, 26), (⟨"DrownedNamesModel", "yearsOf", "(IIII)I"⟩, 26), (⟨"DrownedNamesModel", "lot", "(I)I"⟩, 26), (⟨"DrownedNamesModel", "tellsShip", "(JI)J"⟩, 26), (⟨"DrownedNamesModel", "tellsName", "(JI)J"⟩, 26)]
theorem lw_r4 : ∀ q ∈ lw_privs_4, lw_okq q := List.forall_mem_cons.mpr ⟨lw_p48, List.forall_mem_cons.mpr ⟨lw_p49, List.forall_mem_cons.mpr ⟨lw_p50, List.forall_mem_cons.mpr ⟨lw_p51, List.forall_mem_cons.mpr ⟨lw_p52, List.forall_mem_cons.mpr ⟨lw_p53, List.forall_mem_cons.mpr ⟨lw_p54, List.forall_mem_cons.mpr ⟨lw_p55, List.forall_mem_cons.mpr ⟨lw_p56, List.forall_mem_cons.mpr ⟨lw_p57, List.forall_mem_cons.mpr ⟨lw_p58, List.forall_mem_cons.mpr ⟨lw_p59, List.forall_mem_cons.mpr ⟨lw_p60, fun _ h => absurd h List.not_mem_nil⟩⟩⟩⟩⟩⟩⟩⟩⟩⟩⟩⟩⟩
def lw_privs : List (MethodName × Nat) := lw_privs_1 ++ (lw_privs_2 ++ (lw_privs_3 ++ (lw_privs_4)))
def lw_tbl : List Cond := k2_sels lw_privs ++ tables_1
theorem lw_privs_ok : ∀ q ∈ lw_privs, lw_okq q := by
  show ∀ q ∈ lw_privs_1 ++ (lw_privs_2 ++ (lw_privs_3 ++ (lw_privs_4))), lw_okq q
  exact List.forall_mem_append.mpr ⟨lw_r1, List.forall_mem_append.mpr ⟨lw_r2, List.forall_mem_append.mpr ⟨lw_r3, lw_r4⟩⟩⟩

-- names, read off the printed NAMES by wip/gen/mk01.py
def RX0 : String := "DrownedNames$Evidence"
def TX0 : u_T := fun k => match k with
  | 0 => ("DrownedNames$Evidence", "harbour", "LDrownedNames$Harbour;", true)
  | 1 => ("DrownedNames$Evidence", "reckoning", "LDrownedNames$Reckoning;", true)
  | 2 => ("DrownedNames$Evidence", "seen", "LDrownedNames$Pairs;", true)
  | 3 => ("DrownedNames$Evidence", "isSound", "[Z", true)
  | 4 => ("DrownedNames$Evidence", "paysAlike", "[I", true)
  | 5 => ("DrownedNames$Evidence", "howMany", "I", false)
  | _ => ("DrownedNames$Evidence", "least", "I", false)
def tyX0 : Nat → FieldType := fun k => match k with
  | 0 => .object "DrownedNames$Harbour"
  | 1 => .object "DrownedNames$Reckoning"
  | 2 => .object "DrownedNames$Pairs"
  | 3 => .array .boolean
  | 4 => .array .int
  | 5 => .int
  | _ => .int
abbrev wsX00 : List Cond := u_ws RX0 TX0 7
theorem nmX0 : ∀ a, a < 7 → ∀ b, b < 7 → a ≠ b → (TX0 a).2.1 ≠ (TX0 b).2.1 := by decide +kernel
theorem tyX0_ok : ∀ k, k < 7 → parseFieldDescriptor (TX0 k).2.2.1 = some (tyX0 k) := by decide +kernel
abbrev cX0_init : ByteArray := prog_2_method_1_code
def yX0_init : MethodName := ⟨RX0, "<init>", "(LDrownedNames$Harbour;LDrownedNames$Reckoning;LDrownedNames$Pairs;)V"⟩
abbrev cX0_weigh : ByteArray := prog_2_method_2_code
def yX0_weigh : MethodName := ⟨RX0, "weigh", "()V"⟩
abbrev cX0_shipToPress : ByteArray := prog_2_method_3_code
def yX0_shipToPress : MethodName := ⟨RX0, "shipToPress", "()I"⟩
abbrev cX0_fitsAllSeen : ByteArray := prog_2_method_4_code
def yX0_fitsAllSeen : MethodName := ⟨RX0, "fitsAllSeen", "(I)Z"⟩
abbrev cX0_greatestGroup : ByteArray := prog_2_method_5_code
def yX0_greatestGroup : MethodName := ⟨RX0, "greatestGroup", "(I)I"⟩
def RX1 : String := "DrownedNames$Harbour"
def TX1 : u_T := fun k => match k with
  | 0 => ("DrownedNames$Harbour", "ships", "I", false)
  | 1 => ("DrownedNames$Harbour", "worth", "[I", true)
  | 2 => ("DrownedNames$Harbour", "risk", "[I", true)
  | 3 => ("DrownedNames$Harbour", "names", "I", false)
  | 4 => ("DrownedNames$Harbour", "has", "[I", true)
  | 5 => ("DrownedNames$Harbour", "standsBehind", "[I", true)
  | 6 => ("DrownedNames$Harbour", "drowned", "I", false)
  | 7 => ("DrownedNames$Harbour", "lines", "I", false)
  | 8 => ("DrownedNames$Harbour", "lineShip", "[I", true)
  | 9 => ("DrownedNames$Harbour", "lineName", "[I", true)
  | 10 => ("DrownedNames$Harbour", "lineAmount", "[I", true)
  | 11 => ("DrownedNames$Harbour", "bearer", "[I", true)
  | _ => ("DrownedNames$Harbour", "due", "[I", true)
def tyX1 : Nat → FieldType := fun k => match k with
  | 0 => .int
  | 1 => .array .int
  | 2 => .array .int
  | 3 => .int
  | 4 => .array .int
  | 5 => .array .int
  | 6 => .int
  | 7 => .int
  | 8 => .array .int
  | 9 => .array .int
  | 10 => .array .int
  | 11 => .array .int
  | _ => .array .int
abbrev wsX10 : List Cond := u_ws RX1 TX1 13
theorem nmX1 : ∀ a, a < 13 → ∀ b, b < 13 → a ≠ b → (TX1 a).2.1 ≠ (TX1 b).2.1 := by decide +kernel
theorem tyX1_ok : ∀ k, k < 13 → parseFieldDescriptor (TX1 k).2.2.1 = some (tyX1 k) := by decide +kernel
abbrev cX1_init : ByteArray := prog_3_method_1_code
def yX1_init : MethodName := ⟨RX1, "<init>", "()V"⟩
abbrev cX1_hasShip : ByteArray := prog_3_method_2_code
def yX1_hasShip : MethodName := ⟨RX1, "hasShip", "(I)Z"⟩
abbrev cX1_hasName : ByteArray := prog_3_method_3_code
def yX1_hasName : MethodName := ⟨RX1, "hasName", "(I)Z"⟩
abbrev cX1_hasLine : ByteArray := prog_3_method_4_code
def yX1_hasLine : MethodName := ⟨RX1, "hasLine", "(I)Z"⟩
abbrev cX1_isDrowned : ByteArray := prog_3_method_5_code
def yX1_isDrowned : MethodName := ⟨RX1, "isDrowned", "(I)Z"⟩
abbrev cX1_settleShips : ByteArray := prog_3_method_6_code
def yX1_settleShips : MethodName := ⟨RX1, "settleShips", "(LDrownedNames$Text;)V"⟩
abbrev cX1_settleNames : ByteArray := prog_3_method_7_code
def yX1_settleNames : MethodName := ⟨RX1, "settleNames", "(LDrownedNames$Text;)V"⟩
abbrev cX1_settleLines : ByteArray := prog_3_method_8_code
def yX1_settleLines : MethodName := ⟨RX1, "settleLines", "(LDrownedNames$Text;)V"⟩
abbrev cX1_strikeOut : ByteArray := prog_3_method_9_code
def yX1_strikeOut : MethodName := ⟨RX1, "strikeOut", "(I)V"⟩
abbrev cX1_bearerOf : ByteArray := prog_3_method_10_code
def yX1_bearerOf : MethodName := ⟨RX1, "bearerOf", "(II)I"⟩
abbrev cX1_isVoid : ByteArray := prog_3_method_11_code
def yX1_isVoid : MethodName := ⟨RX1, "isVoid", "(II)Z"⟩
abbrev cX1_dueOfLine : ByteArray := prog_3_method_12_code
def yX1_dueOfLine : MethodName := ⟨RX1, "dueOfLine", "(II)I"⟩
abbrev cX1_namesBorneBy : ByteArray := prog_3_method_13_code
def yX1_namesBorneBy : MethodName := ⟨RX1, "namesBorneBy", "(I)I"⟩
abbrev cX1_dueOf : ByteArray := prog_3_method_14_code
def yX1_dueOf : MethodName := ⟨RX1, "dueOf", "(II)I"⟩
abbrev cX1_dueOfAllShips : ByteArray := prog_3_method_15_code
def yX1_dueOfAllShips : MethodName := ⟨RX1, "dueOfAllShips", "(I)I"⟩
abbrev cX1_hasTogether : ByteArray := prog_3_method_16_code
def yX1_hasTogether : MethodName := ⟨RX1, "hasTogether", "(I)I"⟩
abbrev cX1_chancesOf : ByteArray := prog_3_method_17_code
def yX1_chancesOf : MethodName := ⟨RX1, "chancesOf", "(I)I"⟩
def RX2 : String := "DrownedNames$Pairs"
def TX2 : u_T := fun k => match k with
  | 0 => ("DrownedNames$Pairs", "former", "[I", true)
  | 1 => ("DrownedNames$Pairs", "latter", "[I", true)
  | _ => ("DrownedNames$Pairs", "size", "I", false)
def tyX2 : Nat → FieldType := fun k => match k with
  | 0 => .array .int
  | 1 => .array .int
  | _ => .int
abbrev wsX20 : List Cond := u_ws RX2 TX2 3
theorem nmX2 : ∀ a, a < 3 → ∀ b, b < 3 → a ≠ b → (TX2 a).2.1 ≠ (TX2 b).2.1 := by decide +kernel
theorem tyX2_ok : ∀ k, k < 3 → parseFieldDescriptor (TX2 k).2.2.1 = some (tyX2 k) := by decide +kernel
abbrev cX2_init : ByteArray := prog_4_method_1_code
def yX2_init : MethodName := ⟨RX2, "<init>", "(I)V"⟩
abbrev cX2_isFull : ByteArray := prog_4_method_2_code
def yX2_isFull : MethodName := ⟨RX2, "isFull", "()Z"⟩
abbrev cX2_append : ByteArray := prog_4_method_3_code
def yX2_append : MethodName := ⟨RX2, "append", "(II)I"⟩
def RX3 : String := "DrownedNames$Reckoning"
def TX3 : u_T := fun k => match k with
  | 0 => ("DrownedNames$Reckoning", "harbour", "LDrownedNames$Harbour;", true)
  | 1 => ("DrownedNames$Reckoning", "left", "[I", true)
  | 2 => ("DrownedNames$Reckoning", "paid", "[I", true)
  | 3 => ("DrownedNames$Reckoning", "lost", "I", false)
  | 4 => ("DrownedNames$Reckoning", "broken", "I", false)
  | 5 => ("DrownedNames$Reckoning", "firstYear", "I", false)
  | _ => ("DrownedNames$Reckoning", "firstBroken", "I", false)
def tyX3 : Nat → FieldType := fun k => match k with
  | 0 => .object "DrownedNames$Harbour"
  | 1 => .array .int
  | 2 => .array .int
  | 3 => .int
  | 4 => .int
  | 5 => .int
  | _ => .int
abbrev wsX30 : List Cond := u_ws RX3 TX3 7
theorem nmX3 : ∀ a, a < 7 → ∀ b, b < 7 → a ≠ b → (TX3 a).2.1 ≠ (TX3 b).2.1 := by decide +kernel
theorem tyX3_ok : ∀ k, k < 7 → parseFieldDescriptor (TX3 k).2.2.1 = some (tyX3 k) := by decide +kernel
abbrev cX3_init : ByteArray := prog_5_method_1_code
def yX3_init : MethodName := ⟨RX3, "<init>", "(LDrownedNames$Harbour;)V"⟩
abbrev cX3_followTold : ByteArray := prog_5_method_2_code
def yX3_followTold : MethodName := ⟨RX3, "followTold", "(LDrownedNames$Pairs;I)V"⟩
abbrev cX3_followLots : ByteArray := prog_5_method_3_code
def yX3_followLots : MethodName := ⟨RX3, "followLots", "(II)V"⟩
abbrev cX3_loseTogether : ByteArray := prog_5_method_4_code
def yX3_loseTogether : MethodName := ⟨RX3, "loseTogether", "(I)V"⟩
abbrev cX3_loseAlone : ByteArray := prog_5_method_5_code
def yX3_loseAlone : MethodName := ⟨RX3, "loseAlone", "(II)I"⟩
abbrev cX3_begin : ByteArray := prog_5_method_6_code
def yX3_begin : MethodName := ⟨RX3, "begin", "()V"⟩
abbrev cX3_isLost : ByteArray := prog_5_method_7_code
def yX3_isLost : MethodName := ⟨RX3, "isLost", "(I)Z"⟩
abbrev cX3_sink : ByteArray := prog_5_method_8_code
def yX3_sink : MethodName := ⟨RX3, "sink", "(III)V"⟩
abbrev cX3_breakName : ByteArray := prog_5_method_9_code
def yX3_breakName : MethodName := ⟨RX3, "breakName", "(II)V"⟩
def RX4 : String := "DrownedNames$Sheet"
def TX4 : u_T := fun k => match k with
  | 0 => ("DrownedNames$Sheet", "items", "[I", true)
  | 1 => ("DrownedNames$Sheet", "lost", "Z", false)
  | 2 => ("DrownedNames$Sheet", "form", "I", false)
  | _ => ("DrownedNames$Sheet", "size", "I", false)
def tyX4 : Nat → FieldType := fun k => match k with
  | 0 => .array .int
  | 1 => .boolean
  | 2 => .int
  | _ => .int
abbrev wsX40 : List Cond := u_ws RX4 TX4 4
theorem nmX4 : ∀ a, a < 4 → ∀ b, b < 4 → a ≠ b → (TX4 a).2.1 ≠ (TX4 b).2.1 := by decide +kernel
theorem tyX4_ok : ∀ k, k < 4 → parseFieldDescriptor (TX4 k).2.2.1 = some (tyX4 k) := by decide +kernel
abbrev cX4_init : ByteArray := prog_6_method_1_code
def yX4_init : MethodName := ⟨RX4, "<init>", "()V"⟩
abbrev cX4_renew : ByteArray := prog_6_method_2_code
def yX4_renew : MethodName := ⟨RX4, "renew", "(II)V"⟩
abbrev cX4_findingAt : ByteArray := prog_6_method_3_code
def yX4_findingAt : MethodName := ⟨RX4, "findingAt", "(II)I"⟩
abbrev cX4_hasRange : ByteArray := prog_6_method_4_code
def yX4_hasRange : MethodName := ⟨RX4, "hasRange", "(II)Z"⟩
abbrev cX4_put : ByteArray := prog_6_method_5_code
def yX4_put : MethodName := ⟨RX4, "put", "(II)V"⟩
abbrev cX4_narrowed : ByteArray := prog_6_method_6_code
def yX4_narrowed : MethodName := ⟨RX4, "narrowed", "(I)I"⟩
def RX5 : String := "DrownedNames$Text"
def TX5 : u_T := fun k => match k with
  | 0 => ("DrownedNames$Text", "pattern", "Ljava/lang/String;", true)
  | 1 => ("DrownedNames$Text", "step", "I", true)
  | 2 => ("DrownedNames$Text", "bytes", "[I", true)
  | _ => ("DrownedNames$Text", "length", "I", false)
def tyX5 : Nat → FieldType := fun k => match k with
  | 0 => .object "java/lang/String"
  | 1 => .int
  | 2 => .array .int
  | _ => .int
abbrev wsX50 : List Cond := u_ws RX5 TX5 4
theorem nmX5 : ∀ a, a < 4 → ∀ b, b < 4 → a ≠ b → (TX5 a).2.1 ≠ (TX5 b).2.1 := by decide +kernel
theorem tyX5_ok : ∀ k, k < 4 → parseFieldDescriptor (TX5 k).2.2.1 = some (tyX5 k) := by decide +kernel
abbrev cX5_init : ByteArray := prog_7_method_1_code
def yX5_init : MethodName := ⟨RX5, "<init>", "(Ljava/lang/String;I)V"⟩
abbrev cX5_isFull : ByteArray := prog_7_method_2_code
def yX5_isFull : MethodName := ⟨RX5, "isFull", "()Z"⟩
abbrev cX5_append : ByteArray := prog_7_method_3_code
def yX5_append : MethodName := ⟨RX5, "append", "(I)V"⟩
abbrev cX5_byteAt : ByteArray := prog_7_method_4_code
def yX5_byteAt : MethodName := ⟨RX5, "byteAt", "(I)I"⟩
abbrev cX5_figureAt : ByteArray := prog_7_method_5_code
def yX5_figureAt : MethodName := ⟨RX5, "figureAt", "(I)I"⟩
abbrev cX5_figuresAt : ByteArray := prog_7_method_6_code
def yX5_figuresAt : MethodName := ⟨RX5, "figuresAt", "(I)I"⟩
abbrev cX5_faultPlace : ByteArray := prog_7_method_7_code
def yX5_faultPlace : MethodName := ⟨RX5, "faultPlace", "()I"⟩
abbrev cX5_items : ByteArray := prog_7_method_8_code
def yX5_items : MethodName := ⟨RX5, "items", "()I"⟩
abbrev cX5_goesOnAt : ByteArray := prog_7_method_9_code
def yX5_goesOnAt : MethodName := ⟨RX5, "goesOnAt", "(I)Z"⟩
abbrev cX5_isBetween : ByteArray := prog_7_method_10_code
def yX5_isBetween : MethodName := ⟨RX5, "isBetween", "(ICC)Z"⟩
def RX6 : String := "DrownedNames"
def TX6 : u_T := fun k => match k with
  | 0 => ("DrownedNames", "shipText", "LDrownedNames$Text;", true)
  | 1 => ("DrownedNames", "nameText", "LDrownedNames$Text;", true)
  | 2 => ("DrownedNames", "lineText", "LDrownedNames$Text;", true)
  | 3 => ("DrownedNames", "losses", "LDrownedNames$Pairs;", true)
  | 4 => ("DrownedNames", "sheets", "[LDrownedNames$Sheet;", true)
  | 5 => ("DrownedNames", "harbour", "LDrownedNames$Harbour;", true)
  | 6 => ("DrownedNames", "reckoning", "LDrownedNames$Reckoning;", true)
  | 7 => ("DrownedNames", "sightings", "LDrownedNames$Pairs;", true)
  | 8 => ("DrownedNames", "evidence", "LDrownedNames$Evidence;", true)
  | 9 => ("DrownedNames", "struckNames", "I", false)
  | _ => ("DrownedNames", "latestFinding", "I", false)
def tyX6 : Nat → FieldType := fun k => match k with
  | 0 => .object "DrownedNames$Text"
  | 1 => .object "DrownedNames$Text"
  | 2 => .object "DrownedNames$Text"
  | 3 => .object "DrownedNames$Pairs"
  | 4 => .array (.object "DrownedNames$Sheet")
  | 5 => .object "DrownedNames$Harbour"
  | 6 => .object "DrownedNames$Reckoning"
  | 7 => .object "DrownedNames$Pairs"
  | 8 => .object "DrownedNames$Evidence"
  | 9 => .int
  | _ => .int
abbrev wsX60 : List Cond := u_ws RX6 TX6 11
theorem nmX6 : ∀ a, a < 11 → ∀ b, b < 11 → a ≠ b → (TX6 a).2.1 ≠ (TX6 b).2.1 := by decide +kernel
theorem tyX6_ok : ∀ k, k < 11 → parseFieldDescriptor (TX6 k).2.2.1 = some (tyX6 k) := by decide +kernel
abbrev cX6_init : ByteArray := prog_1_method_1_code
def yX6_init : MethodName := ⟨RX6, "<init>", "()V"⟩
abbrev cX6_type : ByteArray := prog_1_method_2_code
def yX6_type : MethodName := ⟨RX6, "type", "(II)I"⟩
abbrev cX6_wipe : ByteArray := prog_1_method_3_code
def yX6_wipe : MethodName := ⟨RX6, "wipe", "(I)I"⟩
abbrev cX6_undo : ByteArray := prog_1_method_4_code
def yX6_undo : MethodName := ⟨RX6, "undo", "(I)I"⟩
abbrev cX6_fault : ByteArray := prog_1_method_5_code
def yX6_fault : MethodName := ⟨RX6, "fault", "(I)I"⟩
abbrev cX6_ship : ByteArray := prog_1_method_6_code
def yX6_ship : MethodName := ⟨RX6, "ship", "(II)I"⟩
abbrev cX6_name : ByteArray := prog_1_method_7_code
def yX6_name : MethodName := ⟨RX6, "name", "(II)I"⟩
abbrev cX6_line : ByteArray := prog_1_method_8_code
def yX6_line : MethodName := ⟨RX6, "line", "(II)I"⟩
abbrev cX6_struck : ByteArray := prog_1_method_9_code
def yX6_struck : MethodName := ⟨RX6, "struck", "(I)I"⟩
abbrev cX6_loss : ByteArray := prog_1_method_10_code
def yX6_loss : MethodName := ⟨RX6, "loss", "(II)I"⟩
abbrev cX6_back : ByteArray := prog_1_method_11_code
def yX6_back : MethodName := ⟨RX6, "back", "()I"⟩
abbrev cX6_read : ByteArray := prog_1_method_12_code
def yX6_read : MethodName := ⟨RX6, "read", "(I)I"⟩
abbrev cX6_bearer : ByteArray := prog_1_method_13_code
def yX6_bearer : MethodName := ⟨RX6, "bearer", "(II)I"⟩
abbrev cX6_borne : ByteArray := prog_1_method_14_code
def yX6_borne : MethodName := ⟨RX6, "borne", "(II)I"⟩
abbrev cX6_unborne : ByteArray := prog_1_method_15_code
def yX6_unborne : MethodName := ⟨RX6, "unborne", "(I)I"⟩
abbrev cX6_left : ByteArray := prog_1_method_16_code
def yX6_left : MethodName := ⟨RX6, "left", "(II)I"⟩
abbrev cX6_behind : ByteArray := prog_1_method_17_code
def yX6_behind : MethodName := ⟨RX6, "behind", "(II)I"⟩
abbrev cX6_paid : ByteArray := prog_1_method_18_code
def yX6_paid : MethodName := ⟨RX6, "paid", "(II)I"⟩
abbrev cX6_first : ByteArray := prog_1_method_19_code
def yX6_first : MethodName := ⟨RX6, "first", "(I)I"⟩
abbrev cX6_safe : ByteArray := prog_1_method_20_code
def yX6_safe : MethodName := ⟨RX6, "safe", "()I"⟩
abbrev cX6_take : ByteArray := prog_1_method_21_code
def yX6_take : MethodName := ⟨RX6, "take", "(I)I"⟩
abbrev cX6_strike : ByteArray := prog_1_method_22_code
def yX6_strike : MethodName := ⟨RX6, "strike", "(II)I"⟩
abbrev cX6_seen : ByteArray := prog_1_method_23_code
def yX6_seen : MethodName := ⟨RX6, "seen", "(II)I"⟩
abbrev cX6_forget : ByteArray := prog_1_method_24_code
def yX6_forget : MethodName := ⟨RX6, "forget", "()I"⟩
abbrev cX6_sound : ByteArray := prog_1_method_25_code
def yX6_sound : MethodName := ⟨RX6, "sound", "(I)I"⟩
abbrev cX6_press : ByteArray := prog_1_method_26_code
def yX6_press : MethodName := ⟨RX6, "press", "()I"⟩
abbrev cX6_fair : ByteArray := prog_1_method_27_code
def yX6_fair : MethodName := ⟨RX6, "fair", "(II)J"⟩
abbrev cX6_storm : ByteArray := prog_1_method_28_code
def yX6_storm : MethodName := ⟨RX6, "storm", "(III)J"⟩
abbrev cX6_years : ByteArray := prog_1_method_29_code
def yX6_years : MethodName := ⟨RX6, "years", "(IIII)I"⟩
abbrev cX6_sheet : ByteArray := prog_1_method_30_code
def yX6_sheet : MethodName := ⟨RX6, "sheet", "(III)I"⟩
abbrev cX6_lose : ByteArray := prog_1_method_31_code
def yX6_lose : MethodName := ⟨RX6, "lose", "(I)I"⟩
abbrev cX6_lay : ByteArray := prog_1_method_32_code
def yX6_lay : MethodName := ⟨RX6, "lay", "(IIII)I"⟩
abbrev cX6_get : ByteArray := prog_1_method_33_code
def yX6_get : MethodName := ⟨RX6, "get", "(III)I"⟩
abbrev cX6_copy : ByteArray := prog_1_method_34_code
def yX6_copy : MethodName := ⟨RX6, "copy", "(IIIII)I"⟩
abbrev cX6_write : ByteArray := prog_1_method_35_code
def yX6_write : MethodName := ⟨RX6, "write", "(II)I"⟩
abbrev cX6_count : ByteArray := prog_1_method_36_code
def yX6_count : MethodName := ⟨RX6, "count", "(I)I"⟩
abbrev cX6_digest : ByteArray := prog_1_method_37_code
def yX6_digest : MethodName := ⟨RX6, "digest", "()J"⟩
abbrev cX6_withShip : ByteArray := prog_1_method_38_code
def yX6_withShip : MethodName := ⟨RX6, "withShip", "(JI)J"⟩
abbrev cX6_withName : ByteArray := prog_1_method_39_code
def yX6_withName : MethodName := ⟨RX6, "withName", "(JI)J"⟩
abbrev cX6_withYear : ByteArray := prog_1_method_40_code
def yX6_withYear : MethodName := ⟨RX6, "withYear", "(JI)J"⟩
abbrev cX6_textAt : ByteArray := prog_1_method_41_code
def yX6_textAt : MethodName := ⟨RX6, "textAt", "(I)LDrownedNames$Text;"⟩
abbrev cX6_sheetAt : ByteArray := prog_1_method_42_code
def yX6_sheetAt : MethodName := ⟨RX6, "sheetAt", "(I)LDrownedNames$Sheet;"⟩
abbrev cX6_settle : ByteArray := prog_1_method_43_code
def yX6_settle : MethodName := ⟨RX6, "settle", "()V"⟩
abbrev cX6_found : ByteArray := prog_1_method_44_code
def yX6_found : MethodName := ⟨RX6, "found", "(I)I"⟩
abbrev cX6_isWithin : ByteArray := prog_1_method_45_code
def yX6_isWithin : MethodName := ⟨RX6, "isWithin", "(II)Z"⟩
abbrev cX6_isYear : ByteArray := prog_1_method_46_code
def yX6_isYear : MethodName := ⟨RX6, "isYear", "(I)Z"⟩
abbrev cX6_isForm : ByteArray := prog_1_method_47_code
def yX6_isForm : MethodName := ⟨RX6, "isForm", "(I)Z"⟩
abbrev cX6_isLoss : ByteArray := prog_1_method_48_code
def yX6_isLoss : MethodName := ⟨RX6, "isLoss", "(II)Z"⟩
abbrev cX6_partOfFraction : ByteArray := prog_1_method_49_code
def yX6_partOfFraction : MethodName := ⟨RX6, "partOfFraction", "(III)J"⟩
def RX7 : String := "DrownedNamesModel"
def TX7 : u_T := fun k => match k with
  | 0 => ("DrownedNamesModel", "forms", "[I", true)
  | 1 => ("DrownedNamesModel", "sizes", "[I", true)
  | 2 => ("DrownedNamesModel", "items", "[I", true)
  | 3 => ("DrownedNamesModel", "moved", "[I", true)
  | 4 => ("DrownedNamesModel", "latest", "I", false)
  | 5 => ("DrownedNamesModel", "bytes", "[I", true)
  | 6 => ("DrownedNamesModel", "typed", "[I", true)
  | 7 => ("DrownedNamesModel", "at", "I", false)
  | 8 => ("DrownedNamesModel", "many", "[I", true)
  | 9 => ("DrownedNamesModel", "ship", "[I", true)
  | 10 => ("DrownedNamesModel", "name", "[I", true)
  | 11 => ("DrownedNamesModel", "line", "[I", true)
  | 12 => ("DrownedNamesModel", "struck", "I", false)
  | 13 => ("DrownedNamesModel", "losses", "I", false)
  | 14 => ("DrownedNamesModel", "loss", "[I", true)
  | 15 => ("DrownedNamesModel", "left", "[I", true)
  | 16 => ("DrownedNamesModel", "broken", "I", false)
  | 17 => ("DrownedNamesModel", "lost", "I", false)
  | 18 => ("DrownedNamesModel", "paid", "[I", true)
  | 19 => ("DrownedNamesModel", "firstYear", "I", false)
  | 20 => ("DrownedNamesModel", "firstWho", "I", false)
  | 21 => ("DrownedNamesModel", "sound", "I", false)
  | 22 => ("DrownedNamesModel", "sights", "I", false)
  | 23 => ("DrownedNamesModel", "sight", "[I", true)
  | 24 => ("DrownedNamesModel", "sums", "[I", true)
  | _ => ("DrownedNamesModel", "drawn", "I", false)
def tyX7 : Nat → FieldType := fun k => match k with
  | 0 => .array .int
  | 1 => .array .int
  | 2 => .array .int
  | 3 => .array .int
  | 4 => .int
  | 5 => .array .int
  | 6 => .array .int
  | 7 => .int
  | 8 => .array .int
  | 9 => .array .int
  | 10 => .array .int
  | 11 => .array .int
  | 12 => .int
  | 13 => .int
  | 14 => .array .int
  | 15 => .array .int
  | 16 => .int
  | 17 => .int
  | 18 => .array .int
  | 19 => .int
  | 20 => .int
  | 21 => .int
  | 22 => .int
  | 23 => .array .int
  | 24 => .array .int
  | _ => .int
abbrev wsX70 : List Cond := u_ws RX7 TX7 26
theorem nmX7 : ∀ a, a < 26 → ∀ b, b < 26 → a ≠ b → (TX7 a).2.1 ≠ (TX7 b).2.1 := by decide +kernel
theorem tyX7_ok : ∀ k, k < 26 → parseFieldDescriptor (TX7 k).2.2.1 = some (tyX7 k) := by decide +kernel
abbrev cX7_init : ByteArray := prog_9_method_1_code
def yX7_init : MethodName := ⟨RX7, "<init>", "()V"⟩
abbrev cX7_in : ByteArray := prog_9_method_3_code
def yX7_in : MethodName := ⟨RX7, "in", "(JJJ)Z"⟩
abbrev cX7_no : ByteArray := prog_9_method_4_code
def yX7_no : MethodName := ⟨RX7, "no", "(I)J"⟩
abbrev cX7_isTwo : ByteArray := prog_9_method_5_code
def yX7_isTwo : MethodName := ⟨RX7, "isTwo", "(I)Z"⟩
abbrev cX7_isIn : ByteArray := prog_9_method_6_code
def yX7_isIn : MethodName := ⟨RX7, "isIn", "(II)Z"⟩
abbrev cX7_ones : ByteArray := prog_9_method_7_code
def yX7_ones : MethodName := ⟨RX7, "ones", "(I)I"⟩
abbrev cX7_lesser : ByteArray := prog_9_method_8_code
def yX7_lesser : MethodName := ⟨RX7, "lesser", "(II)I"⟩
abbrev cX7_part : ByteArray := prog_9_method_9_code
def yX7_part : MethodName := ⟨RX7, "part", "(JJI)J"⟩
abbrev cX7_finds : ByteArray := prog_9_method_10_code
def yX7_finds : MethodName := ⟨RX7, "finds", "(I)I"⟩
abbrev cX7_isSheet : ByteArray := prog_9_method_11_code
def yX7_isSheet : MethodName := ⟨RX7, "isSheet", "(I)Z"⟩
abbrev cX7_sheet : ByteArray := prog_9_method_12_code
def yX7_sheet : MethodName := ⟨RX7, "sheet", "(III)I"⟩
abbrev cX7_lose : ByteArray := prog_9_method_13_code
def yX7_lose : MethodName := ⟨RX7, "lose", "(I)I"⟩
abbrev cX7_lacks : ByteArray := prog_9_method_14_code
def yX7_lacks : MethodName := ⟨RX7, "lacks", "(III)I"⟩
abbrev cX7_cut : ByteArray := prog_9_method_15_code
def yX7_cut : MethodName := ⟨RX7, "cut", "(II)I"⟩
abbrev cX7_lay : ByteArray := prog_9_method_16_code
def yX7_lay : MethodName := ⟨RX7, "lay", "(IIII)I"⟩
abbrev cX7_get : ByteArray := prog_9_method_17_code
def yX7_get : MethodName := ⟨RX7, "get", "(III)I"⟩
abbrev cX7_copy : ByteArray := prog_9_method_18_code
def yX7_copy : MethodName := ⟨RX7, "copy", "(IIIII)I"⟩
abbrev cX7_isText : ByteArray := prog_9_method_19_code
def yX7_isText : MethodName := ⟨RX7, "isText", "(I)Z"⟩
abbrev cX7_type : ByteArray := prog_9_method_20_code
def yX7_type : MethodName := ⟨RX7, "type", "(II)I"⟩
abbrev cX7_wipe : ByteArray := prog_9_method_21_code
def yX7_wipe : MethodName := ⟨RX7, "wipe", "(I)I"⟩
abbrev cX7_undo : ByteArray := prog_9_method_22_code
def yX7_undo : MethodName := ⟨RX7, "undo", "(I)I"⟩
abbrev cX7_passes : ByteArray := prog_9_method_23_code
def yX7_passes : MethodName := ⟨RX7, "passes", "(III)I"⟩
abbrev cX7_twoFigures : ByteArray := prog_9_method_24_code
def yX7_twoFigures : MethodName := ⟨RX7, "twoFigures", "(II)I"⟩
abbrev cX7_units : ByteArray := prog_9_method_25_code
def yX7_units : MethodName := ⟨RX7, "units", "(II)I"⟩
abbrev cX7_readsShip : ByteArray := prog_9_method_26_code
def yX7_readsShip : MethodName := ⟨RX7, "readsShip", "()Z"⟩
abbrev cX7_readsName : ByteArray := prog_9_method_27_code
def yX7_readsName : MethodName := ⟨RX7, "readsName", "()Z"⟩
abbrev cX7_readsLine : ByteArray := prog_9_method_28_code
def yX7_readsLine : MethodName := ⟨RX7, "readsLine", "()Z"⟩
abbrev cX7_readsThing : ByteArray := prog_9_method_29_code
def yX7_readsThing : MethodName := ⟨RX7, "readsThing", "(I)Z"⟩
abbrev cX7_readsText : ByteArray := prog_9_method_30_code
def yX7_readsText : MethodName := ⟨RX7, "readsText", "(I)I"⟩
abbrev cX7_reads : ByteArray := prog_9_method_31_code
def yX7_reads : MethodName := ⟨RX7, "reads", "()V"⟩
abbrev cX7_fault : ByteArray := prog_9_method_32_code
def yX7_fault : MethodName := ⟨RX7, "fault", "(I)I"⟩
abbrev cX7_isShip : ByteArray := prog_9_method_33_code
def yX7_isShip : MethodName := ⟨RX7, "isShip", "(I)Z"⟩
abbrev cX7_isName : ByteArray := prog_9_method_34_code
def yX7_isName : MethodName := ⟨RX7, "isName", "(I)Z"⟩
abbrev cX7_isYear : ByteArray := prog_9_method_35_code
def yX7_isYear : MethodName := ⟨RX7, "isYear", "(I)Z"⟩
abbrev cX7_ship : ByteArray := prog_9_method_36_code
def yX7_ship : MethodName := ⟨RX7, "ship", "(II)I"⟩
abbrev cX7_name : ByteArray := prog_9_method_37_code
def yX7_name : MethodName := ⟨RX7, "name", "(II)I"⟩
abbrev cX7_struck : ByteArray := prog_9_method_38_code
def yX7_struck : MethodName := ⟨RX7, "struck", "(I)I"⟩
abbrev cX7_bearerOf : ByteArray := prog_9_method_39_code
def yX7_bearerOf : MethodName := ⟨RX7, "bearerOf", "(I)I"⟩
abbrev cX7_stands : ByteArray := prog_9_method_40_code
def yX7_stands : MethodName := ⟨RX7, "stands", "(I)Z"⟩
abbrev cX7_dueOf : ByteArray := prog_9_method_41_code
def yX7_dueOf : MethodName := ⟨RX7, "dueOf", "(I)I"⟩
abbrev cX7_lineOf : ByteArray := prog_9_method_42_code
def yX7_lineOf : MethodName := ⟨RX7, "lineOf", "(II)I"⟩
abbrev cX7_line : ByteArray := prog_9_method_43_code
def yX7_line : MethodName := ⟨RX7, "line", "(II)I"⟩
abbrev cX7_bearersOf : ByteArray := prog_9_method_44_code
def yX7_bearersOf : MethodName := ⟨RX7, "bearersOf", "(I)I"⟩
abbrev cX7_bearerBy : ByteArray := prog_9_method_45_code
def yX7_bearerBy : MethodName := ⟨RX7, "bearerBy", "(II)I"⟩
abbrev cX7_bearer : ByteArray := prog_9_method_46_code
def yX7_bearer : MethodName := ⟨RX7, "bearer", "(II)I"⟩
abbrev cX7_borneOf : ByteArray := prog_9_method_47_code
def yX7_borneOf : MethodName := ⟨RX7, "borneOf", "(II)I"⟩
abbrev cX7_borne : ByteArray := prog_9_method_48_code
def yX7_borne : MethodName := ⟨RX7, "borne", "(II)I"⟩
abbrev cX7_unborne : ByteArray := prog_9_method_49_code
def yX7_unborne : MethodName := ⟨RX7, "unborne", "(I)I"⟩
abbrev cX7_loss : ByteArray := prog_9_method_50_code
def yX7_loss : MethodName := ⟨RX7, "loss", "(II)I"⟩
abbrev cX7_back : ByteArray := prog_9_method_51_code
def yX7_back : MethodName := ⟨RX7, "back", "()I"⟩
abbrev cX7_read : ByteArray := prog_9_method_52_code
def yX7_read : MethodName := ⟨RX7, "read", "(I)I"⟩
abbrev cX7_begins : ByteArray := prog_9_method_53_code
def yX7_begins : MethodName := ⟨RX7, "begins", "()V"⟩
abbrev cX7_goes : ByteArray := prog_9_method_54_code
def yX7_goes : MethodName := ⟨RX7, "goes", "(II)V"⟩
abbrev cX7_lives : ByteArray := prog_9_method_55_code
def yX7_lives : MethodName := ⟨RX7, "lives", "(I)V"⟩
abbrev cX7_leftOf : ByteArray := prog_9_method_56_code
def yX7_leftOf : MethodName := ⟨RX7, "leftOf", "(II)I"⟩
abbrev cX7_left : ByteArray := prog_9_method_57_code
def yX7_left : MethodName := ⟨RX7, "left", "(II)I"⟩
abbrev cX7_behindOf : ByteArray := prog_9_method_58_code
def yX7_behindOf : MethodName := ⟨RX7, "behindOf", "(II)I"⟩
abbrev cX7_behind : ByteArray := prog_9_method_59_code
def yX7_behind : MethodName := ⟨RX7, "behind", "(II)I"⟩
abbrev cX7_paidOf : ByteArray := prog_9_method_60_code
def yX7_paidOf : MethodName := ⟨RX7, "paidOf", "(II)I"⟩
abbrev cX7_paid : ByteArray := prog_9_method_61_code
def yX7_paid : MethodName := ⟨RX7, "paid", "(II)I"⟩
abbrev cX7_firstOf : ByteArray := prog_9_method_62_code
def yX7_firstOf : MethodName := ⟨RX7, "firstOf", "(I)I"⟩
abbrev cX7_first : ByteArray := prog_9_method_63_code
def yX7_first : MethodName := ⟨RX7, "first", "(I)I"⟩
abbrev cX7_alone : ByteArray := prog_9_method_64_code
def yX7_alone : MethodName := ⟨RX7, "alone", "(I)V"⟩
abbrev cX7_safeNow : ByteArray := prog_9_method_65_code
def yX7_safeNow : MethodName := ⟨RX7, "safeNow", "()I"⟩
abbrev cX7_safe : ByteArray := prog_9_method_66_code
def yX7_safe : MethodName := ⟨RX7, "safe", "()I"⟩
abbrev cX7_haveAll : ByteArray := prog_9_method_67_code
def yX7_haveAll : MethodName := ⟨RX7, "haveAll", "(I)I"⟩
abbrev cX7_takeOf : ByteArray := prog_9_method_68_code
def yX7_takeOf : MethodName := ⟨RX7, "takeOf", "(I)I"⟩
abbrev cX7_take : ByteArray := prog_9_method_69_code
def yX7_take : MethodName := ⟨RX7, "take", "(I)I"⟩
abbrev cX7_borneAll : ByteArray := prog_9_method_70_code
def yX7_borneAll : MethodName := ⟨RX7, "borneAll", "(I)I"⟩
abbrev cX7_strikeOf : ByteArray := prog_9_method_71_code
def yX7_strikeOf : MethodName := ⟨RX7, "strikeOf", "(II)I"⟩
abbrev cX7_strike : ByteArray := prog_9_method_72_code
def yX7_strike : MethodName := ⟨RX7, "strike", "(II)I"⟩
abbrev cX7_seen : ByteArray := prog_9_method_73_code
def yX7_seen : MethodName := ⟨RX7, "seen", "(II)I"⟩
abbrev cX7_forget : ByteArray := prog_9_method_74_code
def yX7_forget : MethodName := ⟨RX7, "forget", "()I"⟩
abbrev cX7_isSeen : ByteArray := prog_9_method_75_code
def yX7_isSeen : MethodName := ⟨RX7, "isSeen", "(I)Z"⟩
abbrev cX7_soundOf : ByteArray := prog_9_method_76_code
def yX7_soundOf : MethodName := ⟨RX7, "soundOf", "(I)I"⟩
abbrev cX7_sound : ByteArray := prog_9_method_77_code
def yX7_sound : MethodName := ⟨RX7, "sound", "(I)I"⟩
abbrev cX7_mostAlike : ByteArray := prog_9_method_78_code
def yX7_mostAlike : MethodName := ⟨RX7, "mostAlike", "(I)I"⟩
abbrev cX7_pressNow : ByteArray := prog_9_method_79_code
def yX7_pressNow : MethodName := ⟨RX7, "pressNow", "()I"⟩
abbrev cX7_press : ByteArray := prog_9_method_80_code
def yX7_press : MethodName := ⟨RX7, "press", "()I"⟩
abbrev cX7_fairOf : ByteArray := prog_9_method_81_code
def yX7_fairOf : MethodName := ⟨RX7, "fairOf", "(II)J"⟩
abbrev cX7_fair : ByteArray := prog_9_method_82_code
def yX7_fair : MethodName := ⟨RX7, "fair", "(II)J"⟩
abbrev cX7_stormOf : ByteArray := prog_9_method_83_code
def yX7_stormOf : MethodName := ⟨RX7, "stormOf", "(III)J"⟩
abbrev cX7_storm : ByteArray := prog_9_method_84_code
def yX7_storm : MethodName := ⟨RX7, "storm", "(III)J"⟩
abbrev cX7_lot : ByteArray := prog_9_method_85_code
def yX7_lot : MethodName := ⟨RX7, "lot", "(I)I"⟩
abbrev cX7_yearsOf : ByteArray := prog_9_method_86_code
def yX7_yearsOf : MethodName := ⟨RX7, "yearsOf", "(IIII)I"⟩
abbrev cX7_years : ByteArray := prog_9_method_87_code
def yX7_years : MethodName := ⟨RX7, "years", "(IIII)I"⟩
abbrev cX7_write : ByteArray := prog_9_method_88_code
def yX7_write : MethodName := ⟨RX7, "write", "(II)I"⟩
abbrev cX7_count : ByteArray := prog_9_method_89_code
def yX7_count : MethodName := ⟨RX7, "count", "(I)I"⟩
abbrev cX7_tellsShip : ByteArray := prog_9_method_90_code
def yX7_tellsShip : MethodName := ⟨RX7, "tellsShip", "(JI)J"⟩
abbrev cX7_tellsName : ByteArray := prog_9_method_91_code
def yX7_tellsName : MethodName := ⟨RX7, "tellsName", "(JI)J"⟩
abbrev cX7_digest : ByteArray := prog_9_method_92_code
def yX7_digest : MethodName := ⟨RX7, "digest", "()J"⟩
def RJx145de : String := "java/io/Serializable"
def TJx145de : u_T := fun k => match k with
  | _ => ("", "", "", false)
def tyJx145de : Nat → FieldType := fun k => match k with
  | _ => .int
abbrev wsJx145de0 : List Cond := u_ws RJx145de TJx145de 0
theorem nmJx145de : ∀ a, a < 0 → ∀ b, b < 0 → a ≠ b → (TJx145de a).2.1 ≠ (TJx145de b).2.1 := by decide +kernel
theorem tyJx145de_ok : ∀ k, k < 0 → parseFieldDescriptor (TJx145de k).2.2.1 = some (tyJx145de k) := by decide +kernel
def RJx9f9b0 : String := "java/lang/CharSequence"
def TJx9f9b0 : u_T := fun k => match k with
  | _ => ("", "", "", false)
def tyJx9f9b0 : Nat → FieldType := fun k => match k with
  | _ => .int
abbrev wsJx9f9b00 : List Cond := u_ws RJx9f9b0 TJx9f9b0 0
theorem nmJx9f9b0 : ∀ a, a < 0 → ∀ b, b < 0 → a ≠ b → (TJx9f9b0 a).2.1 ≠ (TJx9f9b0 b).2.1 := by decide +kernel
theorem tyJx9f9b0_ok : ∀ k, k < 0 → parseFieldDescriptor (TJx9f9b0 k).2.2.1 = some (tyJx9f9b0 k) := by decide +kernel
def RJxb160c : String := "java/lang/Comparable"
def TJxb160c : u_T := fun k => match k with
  | _ => ("", "", "", false)
def tyJxb160c : Nat → FieldType := fun k => match k with
  | _ => .int
abbrev wsJxb160c0 : List Cond := u_ws RJxb160c TJxb160c 0
theorem nmJxb160c : ∀ a, a < 0 → ∀ b, b < 0 → a ≠ b → (TJxb160c a).2.1 ≠ (TJxb160c b).2.1 := by decide +kernel
theorem tyJxb160c_ok : ∀ k, k < 0 → parseFieldDescriptor (TJxb160c k).2.2.1 = some (tyJxb160c k) := by decide +kernel
def RJ6 : String := "java/lang/Integer"
def TJ6 : u_T := fun k => match k with
  | _ => ("", "", "", false)
def tyJ6 : Nat → FieldType := fun k => match k with
  | _ => .int
abbrev wsJ60 : List Cond := u_ws RJ6 TJ6 0
theorem nmJ6 : ∀ a, a < 0 → ∀ b, b < 0 → a ≠ b → (TJ6 a).2.1 ≠ (TJ6 b).2.1 := by decide +kernel
theorem tyJ6_ok : ∀ k, k < 0 → parseFieldDescriptor (TJ6 k).2.2.1 = some (tyJ6 k) := by decide +kernel
abbrev cJ6_bitCount_0f7a4 : ByteArray := prog_10_method_49_code
def yJ6_bitCount_0f7a4 : MethodName := ⟨RJ6, "bitCount", "(I)I"⟩
def RJ9 : String := "java/lang/Math"
def TJ9 : u_T := fun k => match k with
  | _ => ("", "", "", false)
def tyJ9 : Nat → FieldType := fun k => match k with
  | _ => .int
abbrev wsJ90 : List Cond := u_ws RJ9 TJ9 0
theorem nmJ9 : ∀ a, a < 0 → ∀ b, b < 0 → a ≠ b → (TJ9 a).2.1 ≠ (TJ9 b).2.1 := by decide +kernel
theorem tyJ9_ok : ∀ k, k < 0 → parseFieldDescriptor (TJ9 k).2.2.1 = some (tyJ9 k) := by decide +kernel
abbrev cJ9_max_7cf53 : ByteArray := prog_11_method_65_code
def yJ9_max_7cf53 : MethodName := ⟨RJ9, "max", "(II)I"⟩
abbrev cJ9_min_7cf53 : ByteArray := prog_11_method_69_code
def yJ9_min_7cf53 : MethodName := ⟨RJ9, "min", "(II)I"⟩
def RJ0 : String := "java/lang/String"
def TJ0 : u_T := fun k => match k with
  | _ => ("", "", "", false)
def tyJ0 : Nat → FieldType := fun k => match k with
  | _ => .int
abbrev wsJ00 : List Cond := u_ws RJ0 TJ0 0
theorem nmJ0 : ∀ a, a < 0 → ∀ b, b < 0 → a ≠ b → (TJ0 a).2.1 ≠ (TJ0 b).2.1 := by decide +kernel
theorem tyJ0_ok : ∀ k, k < 0 → parseFieldDescriptor (TJ0 k).2.2.1 = some (tyJ0 k) := by decide +kernel
abbrev cJ0_length_8abf5 : ByteArray := prog_12_method_54_code
def yJ0_length_8abf5 : MethodName := ⟨RJ0, "length", "()I"⟩
abbrev cJ0_charAt_5068e : ByteArray := prog_12_method_56_code
def yJ0_charAt_5068e : MethodName := ⟨RJ0, "charAt", "(I)C"⟩
abbrev cJ0_coder_7d493 : ByteArray := prog_12_method_152_code
def yJ0_coder_7d493 : MethodName := ⟨RJ0, "coder", "()B"⟩
abbrev cJ0_isLatin1_aae02 : ByteArray := prog_12_method_154_code
def yJ0_isLatin1_aae02 : MethodName := ⟨RJ0, "isLatin1", "()Z"⟩
abbrev cJ0_checkIndex_df160 : ByteArray := prog_12_method_155_code
def yJ0_checkIndex_df160 : MethodName := ⟨RJ0, "checkIndex", "(II)V"⟩
def RJ1 : String := "java/lang/StringLatin1"
def TJ1 : u_T := fun k => match k with
  | _ => ("", "", "", false)
def tyJ1 : Nat → FieldType := fun k => match k with
  | _ => .int
abbrev wsJ10 : List Cond := u_ws RJ1 TJ1 0
theorem nmJ1 : ∀ a, a < 0 → ∀ b, b < 0 → a ≠ b → (TJ1 a).2.1 ≠ (TJ1 b).2.1 := by decide +kernel
theorem tyJ1_ok : ∀ k, k < 0 → parseFieldDescriptor (TJ1 k).2.2.1 = some (tyJ1 k) := by decide +kernel
abbrev cJ1_charAt_3b067 : ByteArray := prog_13_method_2_code
def yJ1_charAt_3b067 : MethodName := ⟨RJ1, "charAt", "([BI)C"⟩
def RJ2 : String := "java/lang/StringUTF16"
def TJ2 : u_T := fun k => match k with
  | _ => ("", "", "", false)
def tyJ2 : Nat → FieldType := fun k => match k with
  | _ => .int
abbrev wsJ20 : List Cond := u_ws RJ2 TJ2 0
theorem nmJ2 : ∀ a, a < 0 → ∀ b, b < 0 → a ≠ b → (TJ2 a).2.1 ≠ (TJ2 b).2.1 := by decide +kernel
theorem tyJ2_ok : ∀ k, k < 0 → parseFieldDescriptor (TJ2 k).2.2.1 = some (tyJ2 k) := by decide +kernel
abbrev cJ2_getChar_3b067 : ByteArray := prog_14_method_5_code
def yJ2_getChar_3b067 : MethodName := ⟨RJ2, "getChar", "([BI)C"⟩
abbrev cJ2_length_9d52b : ByteArray := prog_14_method_6_code
def yJ2_length_9d52b : MethodName := ⟨RJ2, "length", "([B)I"⟩
abbrev cJ2_charAt_3b067 : ByteArray := prog_14_method_83_code
def yJ2_charAt_3b067 : MethodName := ⟨RJ2, "charAt", "([BI)C"⟩
abbrev cJ2_checkIndex_2214a : ByteArray := prog_14_method_91_code
def yJ2_checkIndex_2214a : MethodName := ⟨RJ2, "checkIndex", "(I[B)V"⟩
def RJ10 : String := "java/lang/System"
def TJ10 : u_T := fun k => match k with
  | _ => ("", "", "", false)
def tyJ10 : Nat → FieldType := fun k => match k with
  | _ => .int
abbrev wsJ100 : List Cond := u_ws RJ10 TJ10 0
theorem nmJ10 : ∀ a, a < 0 → ∀ b, b < 0 → a ≠ b → (TJ10 a).2.1 ≠ (TJ10 b).2.1 := by decide +kernel
theorem tyJ10_ok : ∀ k, k < 0 → parseFieldDescriptor (TJ10 k).2.2.1 = some (tyJ10 k) := by decide +kernel
def RJxfd54e : String := "java/lang/constant/Constable"
def TJxfd54e : u_T := fun k => match k with
  | _ => ("", "", "", false)
def tyJxfd54e : Nat → FieldType := fun k => match k with
  | _ => .int
abbrev wsJxfd54e0 : List Cond := u_ws RJxfd54e TJxfd54e 0
theorem nmJxfd54e : ∀ a, a < 0 → ∀ b, b < 0 → a ≠ b → (TJxfd54e a).2.1 ≠ (TJxfd54e b).2.1 := by decide +kernel
theorem tyJxfd54e_ok : ∀ k, k < 0 → parseFieldDescriptor (TJxfd54e k).2.2.1 = some (tyJxfd54e k) := by decide +kernel
def RJx3cf43 : String := "java/lang/constant/ConstantDesc"
def TJx3cf43 : u_T := fun k => match k with
  | _ => ("", "", "", false)
def tyJx3cf43 : Nat → FieldType := fun k => match k with
  | _ => .int
abbrev wsJx3cf430 : List Cond := u_ws RJx3cf43 TJx3cf43 0
theorem nmJx3cf43 : ∀ a, a < 0 → ∀ b, b < 0 → a ≠ b → (TJx3cf43 a).2.1 ≠ (TJx3cf43 b).2.1 := by decide +kernel
theorem tyJx3cf43_ok : ∀ k, k < 0 → parseFieldDescriptor (TJx3cf43 k).2.2.1 = some (tyJx3cf43 k) := by decide +kernel
def RJ7 : String := "java/util/Arrays"
def TJ7 : u_T := fun k => match k with
  | _ => ("", "", "", false)
def tyJ7 : Nat → FieldType := fun k => match k with
  | _ => .int
abbrev wsJ70 : List Cond := u_ws RJ7 TJ7 0
theorem nmJ7 : ∀ a, a < 0 → ∀ b, b < 0 → a ≠ b → (TJ7 a).2.1 ≠ (TJ7 b).2.1 := by decide +kernel
theorem tyJ7_ok : ∀ k, k < 0 → parseFieldDescriptor (TJ7 k).2.2.1 = some (tyJ7 k) := by decide +kernel
abbrev cJ7_fill_53178 : ByteArray := prog_16_method_103_code
def yJ7_fill_53178 : MethodName := ⟨RJ7, "fill", "([II)V"⟩
def RJ3 : String := "jdk/internal/util/Preconditions"
def TJ3 : u_T := fun k => match k with
  | _ => ("", "", "", false)
def tyJ3 : Nat → FieldType := fun k => match k with
  | _ => .int
abbrev wsJ30 : List Cond := u_ws RJ3 TJ3 0
theorem nmJ3 : ∀ a, a < 0 → ∀ b, b < 0 → a ≠ b → (TJ3 a).2.1 ≠ (TJ3 b).2.1 := by decide +kernel
theorem tyJ3_ok : ∀ k, k < 0 → parseFieldDescriptor (TJ3 k).2.2.1 = some (tyJ3 k) := by decide +kernel
abbrev cJ3_checkIndex_8e157 : ByteArray := prog_17_method_11_code
def yJ3_checkIndex_8e157 : MethodName := ⟨RJ3, "checkIndex", "(IILjava/util/function/BiFunction;)I"⟩
def RL : String := "DrownedNamesLaw"
abbrev cL_law : ByteArray := code
set_option maxRecDepth 20000 in
theorem inX0 : ∀ w ∈ wsX00, w ∈ lw_tbl := by decide +kernel
set_option maxRecDepth 20000 in
theorem inX1 : ∀ w ∈ wsX10, w ∈ lw_tbl := by decide +kernel
set_option maxRecDepth 20000 in
theorem inX2 : ∀ w ∈ wsX20, w ∈ lw_tbl := by decide +kernel
set_option maxRecDepth 20000 in
theorem inX3 : ∀ w ∈ wsX30, w ∈ lw_tbl := by decide +kernel
set_option maxRecDepth 20000 in
theorem inX4 : ∀ w ∈ wsX40, w ∈ lw_tbl := by decide +kernel
set_option maxRecDepth 20000 in
theorem inX5 : ∀ w ∈ wsX50, w ∈ lw_tbl := by decide +kernel
set_option maxRecDepth 20000 in
theorem inX6 : ∀ w ∈ wsX60, w ∈ lw_tbl := by decide +kernel
set_option maxRecDepth 20000 in
theorem inX7 : ∀ w ∈ wsX70, w ∈ lw_tbl := by decide +kernel
set_option maxRecDepth 20000 in
theorem inJx145de : ∀ w ∈ wsJx145de0, w ∈ lw_tbl := by decide +kernel
set_option maxRecDepth 20000 in
theorem inJx9f9b0 : ∀ w ∈ wsJx9f9b00, w ∈ lw_tbl := by decide +kernel
set_option maxRecDepth 20000 in
theorem inJxb160c : ∀ w ∈ wsJxb160c0, w ∈ lw_tbl := by decide +kernel
set_option maxRecDepth 20000 in
theorem inJ6 : ∀ w ∈ wsJ60, w ∈ lw_tbl := by decide +kernel
set_option maxRecDepth 20000 in
theorem inJ9 : ∀ w ∈ wsJ90, w ∈ lw_tbl := by decide +kernel
set_option maxRecDepth 20000 in
theorem inJ0 : ∀ w ∈ wsJ00, w ∈ lw_tbl := by decide +kernel
set_option maxRecDepth 20000 in
theorem inJ1 : ∀ w ∈ wsJ10, w ∈ lw_tbl := by decide +kernel
set_option maxRecDepth 20000 in
theorem inJ2 : ∀ w ∈ wsJ20, w ∈ lw_tbl := by decide +kernel
set_option maxRecDepth 20000 in
theorem inJ10 : ∀ w ∈ wsJ100, w ∈ lw_tbl := by decide +kernel
set_option maxRecDepth 20000 in
theorem inJxfd54e : ∀ w ∈ wsJxfd54e0, w ∈ lw_tbl := by decide +kernel
set_option maxRecDepth 20000 in
theorem inJx3cf43 : ∀ w ∈ wsJx3cf430, w ∈ lw_tbl := by decide +kernel
set_option maxRecDepth 20000 in
theorem inJ7 : ∀ w ∈ wsJ70, w ∈ lw_tbl := by decide +kernel
set_option maxRecDepth 20000 in
theorem inJ3 : ∀ w ∈ wsJ30, w ∈ lw_tbl := by decide +kernel
abbrev vwCl : List vw_C := [(RX0, TX0, 7), (RX1, TX1, 13), (RX2, TX2, 3), (RX3, TX3, 7), (RX4, TX4, 4), (RX5, TX5, 4), (RX6, TX6, 11), (RX7, TX7, 26)]
end
section
theorem dX0_init_0 : decode cX0_init 0 = .ok (.aload_n 0, 1) := by decide +kernel
theorem dX0_init_1 : decode cX0_init 1 = .ok (.invokespecial 3, 3) := by decide +kernel
theorem dX0_init_4 : decode cX0_init 4 = .ok (.aload_n 0, 1) := by decide +kernel
theorem dX0_init_5 : decode cX0_init 5 = .ok (.sipush 256, 3) := by decide +kernel
theorem dX0_init_8 : decode cX0_init 8 = .ok (.newarray .boolean, 2) := by decide +kernel
theorem dX0_init_10 : decode cX0_init 10 = .ok (.putfield 9, 3) := by decide +kernel
theorem dX0_init_13 : decode cX0_init 13 = .ok (.aload_n 0, 1) := by decide +kernel
theorem dX0_init_14 : decode cX0_init 14 = .ok (.bipush 100, 2) := by decide +kernel
theorem dX0_init_16 : decode cX0_init 16 = .ok (.newarray .int, 2) := by decide +kernel
theorem dX0_init_18 : decode cX0_init 18 = .ok (.putfield 15, 3) := by decide +kernel
theorem dX0_init_21 : decode cX0_init 21 = .ok (.aload_n 0, 1) := by decide +kernel
theorem dX0_init_22 : decode cX0_init 22 = .ok (.aload_n 1, 1) := by decide +kernel
theorem dX0_init_23 : decode cX0_init 23 = .ok (.putfield 19, 3) := by decide +kernel
theorem dX0_init_26 : decode cX0_init 26 = .ok (.aload_n 0, 1) := by decide +kernel
theorem dX0_init_27 : decode cX0_init 27 = .ok (.aload_n 2, 1) := by decide +kernel
theorem dX0_init_28 : decode cX0_init 28 = .ok (.putfield 23, 3) := by decide +kernel
theorem dX0_init_31 : decode cX0_init 31 = .ok (.aload_n 0, 1) := by decide +kernel
theorem dX0_init_32 : decode cX0_init 32 = .ok (.aload_n 3, 1) := by decide +kernel
theorem dX0_init_33 : decode cX0_init 33 = .ok (.putfield 27, 3) := by decide +kernel
theorem dX0_init_36 : decode cX0_init 36 = .ok (.return_, 1) := by decide +kernel
theorem dX0_weigh_0 : decode cX0_weigh 0 = .ok (.aload_n 0, 1) := by decide +kernel
theorem dX0_weigh_1 : decode cX0_weigh 1 = .ok (.iconst 0, 1) := by decide +kernel
theorem dX0_weigh_2 : decode cX0_weigh 2 = .ok (.putfield 31, 3) := by decide +kernel
theorem dX0_weigh_5 : decode cX0_weigh 5 = .ok (.aload_n 0, 1) := by decide +kernel
theorem dX0_weigh_6 : decode cX0_weigh 6 = .ok (.iconst (-1), 1) := by decide +kernel
theorem dX0_weigh_7 : decode cX0_weigh 7 = .ok (.putfield 35, 3) := by decide +kernel
theorem dX0_weigh_10 : decode cX0_weigh 10 = .ok (.iconst 0, 1) := by decide +kernel
theorem dX0_weigh_11 : decode cX0_weigh 11 = .ok (.istore_n 1, 1) := by decide +kernel
theorem dX0_weigh_12 : decode cX0_weigh 12 = .ok (.iload_n 1, 1) := by decide +kernel
theorem dX0_weigh_13 : decode cX0_weigh 13 = .ok (.iconst 1, 1) := by decide +kernel
theorem dX0_weigh_14 : decode cX0_weigh 14 = .ok (.aload_n 0, 1) := by decide +kernel
theorem dX0_weigh_15 : decode cX0_weigh 15 = .ok (.getfield 19, 3) := by decide +kernel
theorem dX0_weigh_18 : decode cX0_weigh 18 = .ok (.getfield 38, 3) := by decide +kernel
theorem dX0_weigh_21 : decode cX0_weigh 21 = .ok (.ishl, 1) := by decide +kernel
theorem dX0_weigh_22 : decode cX0_weigh 22 = .ok (.if_icmp .ge 59, 3) := by decide +kernel
theorem dX0_weigh_25 : decode cX0_weigh 25 = .ok (.aload_n 0, 1) := by decide +kernel
theorem dX0_weigh_26 : decode cX0_weigh 26 = .ok (.getfield 9, 3) := by decide +kernel
theorem dX0_weigh_29 : decode cX0_weigh 29 = .ok (.iload_n 1, 1) := by decide +kernel
theorem dX0_weigh_30 : decode cX0_weigh 30 = .ok (.aload_n 0, 1) := by decide +kernel
theorem dX0_weigh_31 : decode cX0_weigh 31 = .ok (.iload_n 1, 1) := by decide +kernel
theorem dX0_weigh_32 : decode cX0_weigh 32 = .ok (.invokevirtual 43, 3) := by decide +kernel
theorem dX0_weigh_35 : decode cX0_weigh 35 = .ok (.bastore, 1) := by decide +kernel
theorem dX0_weigh_36 : decode cX0_weigh 36 = .ok (.aload_n 0, 1) := by decide +kernel
theorem dX0_weigh_37 : decode cX0_weigh 37 = .ok (.getfield 9, 3) := by decide +kernel
theorem dX0_weigh_40 : decode cX0_weigh 40 = .ok (.iload_n 1, 1) := by decide +kernel
theorem dX0_weigh_41 : decode cX0_weigh 41 = .ok (.baload, 1) := by decide +kernel
theorem dX0_weigh_42 : decode cX0_weigh 42 = .ok (.ifCond .eq 33, 3) := by decide +kernel
theorem dX0_weigh_45 : decode cX0_weigh 45 = .ok (.aload_n 0, 1) := by decide +kernel
theorem dX0_weigh_46 : decode cX0_weigh 46 = .ok (.dup, 1) := by decide +kernel
theorem dX0_weigh_47 : decode cX0_weigh 47 = .ok (.getfield 31, 3) := by decide +kernel
theorem dX0_weigh_50 : decode cX0_weigh 50 = .ok (.iconst 1, 1) := by decide +kernel
theorem dX0_weigh_51 : decode cX0_weigh 51 = .ok (.iadd, 1) := by decide +kernel
theorem dX0_weigh_52 : decode cX0_weigh 52 = .ok (.putfield 31, 3) := by decide +kernel
theorem dX0_weigh_55 : decode cX0_weigh 55 = .ok (.aload_n 0, 1) := by decide +kernel
theorem dX0_weigh_56 : decode cX0_weigh 56 = .ok (.aload_n 0, 1) := by decide +kernel
theorem dX0_weigh_57 : decode cX0_weigh 57 = .ok (.getfield 35, 3) := by decide +kernel
theorem dX0_weigh_60 : decode cX0_weigh 60 = .ok (.iconst (-1), 1) := by decide +kernel
theorem dX0_weigh_61 : decode cX0_weigh 61 = .ok (.if_icmp .ne 7, 3) := by decide +kernel
theorem dX0_weigh_64 : decode cX0_weigh 64 = .ok (.iload_n 1, 1) := by decide +kernel
theorem dX0_weigh_65 : decode cX0_weigh 65 = .ok (.goto 7, 3) := by decide +kernel
theorem dX0_weigh_68 : decode cX0_weigh 68 = .ok (.aload_n 0, 1) := by decide +kernel
theorem dX0_weigh_69 : decode cX0_weigh 69 = .ok (.getfield 35, 3) := by decide +kernel
theorem dX0_weigh_72 : decode cX0_weigh 72 = .ok (.putfield 35, 3) := by decide +kernel
theorem dX0_weigh_75 : decode cX0_weigh 75 = .ok (.iinc 1 1, 3) := by decide +kernel
theorem dX0_weigh_78 : decode cX0_weigh 78 = .ok (.goto (-66), 3) := by decide +kernel
theorem dX0_weigh_81 : decode cX0_weigh 81 = .ok (.return_, 1) := by decide +kernel
theorem dX0_shipToPress_0 : decode cX0_shipToPress 0 = .ok (.iconst (-1), 1) := by decide +kernel
theorem dX0_shipToPress_1 : decode cX0_shipToPress 1 = .ok (.istore_n 1, 1) := by decide +kernel
theorem dX0_shipToPress_2 : decode cX0_shipToPress 2 = .ok (.iconst 0, 1) := by decide +kernel
theorem dX0_shipToPress_3 : decode cX0_shipToPress 3 = .ok (.istore_n 2, 1) := by decide +kernel
theorem dX0_shipToPress_4 : decode cX0_shipToPress 4 = .ok (.iconst 0, 1) := by decide +kernel
theorem dX0_shipToPress_5 : decode cX0_shipToPress 5 = .ok (.istore_n 3, 1) := by decide +kernel
theorem dX0_shipToPress_6 : decode cX0_shipToPress 6 = .ok (.iload_n 3, 1) := by decide +kernel
theorem dX0_shipToPress_7 : decode cX0_shipToPress 7 = .ok (.aload_n 0, 1) := by decide +kernel
theorem dX0_shipToPress_8 : decode cX0_shipToPress 8 = .ok (.getfield 19, 3) := by decide +kernel
theorem dX0_shipToPress_11 : decode cX0_shipToPress 11 = .ok (.getfield 47, 3) := by decide +kernel
theorem dX0_shipToPress_14 : decode cX0_shipToPress 14 = .ok (.if_icmp .ge 32, 3) := by decide +kernel
theorem dX0_shipToPress_17 : decode cX0_shipToPress 17 = .ok (.aload_n 0, 1) := by decide +kernel
theorem dX0_shipToPress_18 : decode cX0_shipToPress 18 = .ok (.iload_n 3, 1) := by decide +kernel
theorem dX0_shipToPress_19 : decode cX0_shipToPress 19 = .ok (.invokevirtual 50, 3) := by decide +kernel
theorem dX0_shipToPress_22 : decode cX0_shipToPress 22 = .ok (.istore 4, 2) := by decide +kernel
theorem dX0_shipToPress_24 : decode cX0_shipToPress 24 = .ok (.iload_n 1, 1) := by decide +kernel
theorem dX0_shipToPress_25 : decode cX0_shipToPress 25 = .ok (.iconst (-1), 1) := by decide +kernel
theorem dX0_shipToPress_26 : decode cX0_shipToPress 26 = .ok (.if_icmp .eq 9, 3) := by decide +kernel
theorem dX0_shipToPress_29 : decode cX0_shipToPress 29 = .ok (.iload 4, 2) := by decide +kernel
theorem dX0_shipToPress_31 : decode cX0_shipToPress 31 = .ok (.iload_n 2, 1) := by decide +kernel
theorem dX0_shipToPress_32 : decode cX0_shipToPress 32 = .ok (.if_icmp .ge 8, 3) := by decide +kernel
theorem dX0_shipToPress_35 : decode cX0_shipToPress 35 = .ok (.iload_n 3, 1) := by decide +kernel
theorem dX0_shipToPress_36 : decode cX0_shipToPress 36 = .ok (.istore_n 1, 1) := by decide +kernel
theorem dX0_shipToPress_37 : decode cX0_shipToPress 37 = .ok (.iload 4, 2) := by decide +kernel
theorem dX0_shipToPress_39 : decode cX0_shipToPress 39 = .ok (.istore_n 2, 1) := by decide +kernel
theorem dX0_shipToPress_40 : decode cX0_shipToPress 40 = .ok (.iinc 3 1, 3) := by decide +kernel
theorem dX0_shipToPress_43 : decode cX0_shipToPress 43 = .ok (.goto (-37), 3) := by decide +kernel
theorem dX0_shipToPress_46 : decode cX0_shipToPress 46 = .ok (.iload_n 1, 1) := by decide +kernel
theorem dX0_shipToPress_47 : decode cX0_shipToPress 47 = .ok (.ireturn, 1) := by decide +kernel
theorem dX0_fitsAllSeen_0 : decode cX0_fitsAllSeen 0 = .ok (.iconst 0, 1) := by decide +kernel
theorem dX0_fitsAllSeen_1 : decode cX0_fitsAllSeen 1 = .ok (.istore_n 2, 1) := by decide +kernel
theorem dX0_fitsAllSeen_2 : decode cX0_fitsAllSeen 2 = .ok (.iload_n 2, 1) := by decide +kernel
theorem dX0_fitsAllSeen_3 : decode cX0_fitsAllSeen 3 = .ok (.aload_n 0, 1) := by decide +kernel
theorem dX0_fitsAllSeen_4 : decode cX0_fitsAllSeen 4 = .ok (.getfield 27, 3) := by decide +kernel
theorem dX0_fitsAllSeen_7 : decode cX0_fitsAllSeen 7 = .ok (.getfield 54, 3) := by decide +kernel
theorem dX0_fitsAllSeen_10 : decode cX0_fitsAllSeen 10 = .ok (.if_icmp .ge 40, 3) := by decide +kernel
theorem dX0_fitsAllSeen_13 : decode cX0_fitsAllSeen 13 = .ok (.aload_n 0, 1) := by decide +kernel
theorem dX0_fitsAllSeen_14 : decode cX0_fitsAllSeen 14 = .ok (.getfield 23, 3) := by decide +kernel
theorem dX0_fitsAllSeen_17 : decode cX0_fitsAllSeen 17 = .ok (.aload_n 0, 1) := by decide +kernel
theorem dX0_fitsAllSeen_18 : decode cX0_fitsAllSeen 18 = .ok (.getfield 27, 3) := by decide +kernel
theorem dX0_fitsAllSeen_21 : decode cX0_fitsAllSeen 21 = .ok (.getfield 59, 3) := by decide +kernel
theorem dX0_fitsAllSeen_24 : decode cX0_fitsAllSeen 24 = .ok (.iload_n 2, 1) := by decide +kernel
theorem dX0_fitsAllSeen_25 : decode cX0_fitsAllSeen 25 = .ok (.iaload, 1) := by decide +kernel
theorem dX0_fitsAllSeen_26 : decode cX0_fitsAllSeen 26 = .ok (.iload_n 1, 1) := by decide +kernel
theorem dX0_fitsAllSeen_27 : decode cX0_fitsAllSeen 27 = .ok (.invokevirtual 62, 3) := by decide +kernel
theorem dX0_fitsAllSeen_30 : decode cX0_fitsAllSeen 30 = .ok (.aload_n 0, 1) := by decide +kernel
theorem dX0_fitsAllSeen_31 : decode cX0_fitsAllSeen 31 = .ok (.getfield 27, 3) := by decide +kernel
theorem dX0_fitsAllSeen_34 : decode cX0_fitsAllSeen 34 = .ok (.getfield 68, 3) := by decide +kernel
theorem dX0_fitsAllSeen_37 : decode cX0_fitsAllSeen 37 = .ok (.iload_n 2, 1) := by decide +kernel
theorem dX0_fitsAllSeen_38 : decode cX0_fitsAllSeen 38 = .ok (.iaload, 1) := by decide +kernel
theorem dX0_fitsAllSeen_39 : decode cX0_fitsAllSeen 39 = .ok (.if_icmp .eq 5, 3) := by decide +kernel
theorem dX0_fitsAllSeen_42 : decode cX0_fitsAllSeen 42 = .ok (.iconst 0, 1) := by decide +kernel
theorem dX0_fitsAllSeen_43 : decode cX0_fitsAllSeen 43 = .ok (.ireturn, 1) := by decide +kernel
theorem dX0_fitsAllSeen_44 : decode cX0_fitsAllSeen 44 = .ok (.iinc 2 1, 3) := by decide +kernel
theorem dX0_fitsAllSeen_47 : decode cX0_fitsAllSeen 47 = .ok (.goto (-45), 3) := by decide +kernel
theorem dX0_fitsAllSeen_50 : decode cX0_fitsAllSeen 50 = .ok (.iconst 1, 1) := by decide +kernel
theorem dX0_fitsAllSeen_51 : decode cX0_fitsAllSeen 51 = .ok (.ireturn, 1) := by decide +kernel
theorem dX0_greatestGroup_0 : decode cX0_greatestGroup 0 = .ok (.aload_n 0, 1) := by decide +kernel
theorem dX0_greatestGroup_1 : decode cX0_greatestGroup 1 = .ok (.getfield 15, 3) := by decide +kernel
theorem dX0_greatestGroup_4 : decode cX0_greatestGroup 4 = .ok (.iconst 0, 1) := by decide +kernel
theorem dX0_greatestGroup_5 : decode cX0_greatestGroup 5 = .ok (.invokestatic 71, 3) := by decide +kernel
theorem dX0_greatestGroup_8 : decode cX0_greatestGroup 8 = .ok (.iconst 0, 1) := by decide +kernel
theorem dX0_greatestGroup_9 : decode cX0_greatestGroup 9 = .ok (.istore_n 2, 1) := by decide +kernel
theorem dX0_greatestGroup_10 : decode cX0_greatestGroup 10 = .ok (.iconst 0, 1) := by decide +kernel
theorem dX0_greatestGroup_11 : decode cX0_greatestGroup 11 = .ok (.istore_n 3, 1) := by decide +kernel
theorem dX0_greatestGroup_12 : decode cX0_greatestGroup 12 = .ok (.iload_n 3, 1) := by decide +kernel
theorem dX0_greatestGroup_13 : decode cX0_greatestGroup 13 = .ok (.iconst 1, 1) := by decide +kernel
theorem dX0_greatestGroup_14 : decode cX0_greatestGroup 14 = .ok (.aload_n 0, 1) := by decide +kernel
theorem dX0_greatestGroup_15 : decode cX0_greatestGroup 15 = .ok (.getfield 19, 3) := by decide +kernel
theorem dX0_greatestGroup_18 : decode cX0_greatestGroup 18 = .ok (.getfield 38, 3) := by decide +kernel
theorem dX0_greatestGroup_21 : decode cX0_greatestGroup 21 = .ok (.ishl, 1) := by decide +kernel
theorem dX0_greatestGroup_22 : decode cX0_greatestGroup 22 = .ok (.if_icmp .ge 70, 3) := by decide +kernel
theorem dX0_greatestGroup_25 : decode cX0_greatestGroup 25 = .ok (.aload_n 0, 1) := by decide +kernel
theorem dX0_greatestGroup_26 : decode cX0_greatestGroup 26 = .ok (.getfield 9, 3) := by decide +kernel
theorem dX0_greatestGroup_29 : decode cX0_greatestGroup 29 = .ok (.iload_n 3, 1) := by decide +kernel
theorem dX0_greatestGroup_30 : decode cX0_greatestGroup 30 = .ok (.baload, 1) := by decide +kernel
theorem dX0_greatestGroup_31 : decode cX0_greatestGroup 31 = .ok (.ifCond .ne 6, 3) := by decide +kernel
theorem dX0_greatestGroup_34 : decode cX0_greatestGroup 34 = .ok (.goto 52, 3) := by decide +kernel
theorem dX0_greatestGroup_37 : decode cX0_greatestGroup 37 = .ok (.aload_n 0, 1) := by decide +kernel
theorem dX0_greatestGroup_38 : decode cX0_greatestGroup 38 = .ok (.getfield 23, 3) := by decide +kernel
theorem dX0_greatestGroup_41 : decode cX0_greatestGroup 41 = .ok (.iload_n 1, 1) := by decide +kernel
theorem dX0_greatestGroup_42 : decode cX0_greatestGroup 42 = .ok (.iload_n 3, 1) := by decide +kernel
theorem dX0_greatestGroup_43 : decode cX0_greatestGroup 43 = .ok (.invokevirtual 62, 3) := by decide +kernel
theorem dX0_greatestGroup_46 : decode cX0_greatestGroup 46 = .ok (.istore 4, 2) := by decide +kernel
theorem dX0_greatestGroup_48 : decode cX0_greatestGroup 48 = .ok (.iload 4, 2) := by decide +kernel
theorem dX0_greatestGroup_50 : decode cX0_greatestGroup 50 = .ok (.ifCond .lt 36, 3) := by decide +kernel
theorem dX0_greatestGroup_53 : decode cX0_greatestGroup 53 = .ok (.iload 4, 2) := by decide +kernel
theorem dX0_greatestGroup_55 : decode cX0_greatestGroup 55 = .ok (.aload_n 0, 1) := by decide +kernel
theorem dX0_greatestGroup_56 : decode cX0_greatestGroup 56 = .ok (.getfield 15, 3) := by decide +kernel
theorem dX0_greatestGroup_59 : decode cX0_greatestGroup 59 = .ok (.arraylength, 1) := by decide +kernel
theorem dX0_greatestGroup_60 : decode cX0_greatestGroup 60 = .ok (.if_icmp .ge 26, 3) := by decide +kernel
theorem dX0_greatestGroup_63 : decode cX0_greatestGroup 63 = .ok (.aload_n 0, 1) := by decide +kernel
theorem dX0_greatestGroup_64 : decode cX0_greatestGroup 64 = .ok (.getfield 15, 3) := by decide +kernel
theorem dX0_greatestGroup_67 : decode cX0_greatestGroup 67 = .ok (.iload 4, 2) := by decide +kernel
theorem dX0_greatestGroup_69 : decode cX0_greatestGroup 69 = .ok (.dup2, 1) := by decide +kernel
theorem dX0_greatestGroup_70 : decode cX0_greatestGroup 70 = .ok (.iaload, 1) := by decide +kernel
theorem dX0_greatestGroup_71 : decode cX0_greatestGroup 71 = .ok (.iconst 1, 1) := by decide +kernel
theorem dX0_greatestGroup_72 : decode cX0_greatestGroup 72 = .ok (.iadd, 1) := by decide +kernel
theorem dX0_greatestGroup_73 : decode cX0_greatestGroup 73 = .ok (.iastore, 1) := by decide +kernel
theorem dX0_greatestGroup_74 : decode cX0_greatestGroup 74 = .ok (.iload_n 2, 1) := by decide +kernel
theorem dX0_greatestGroup_75 : decode cX0_greatestGroup 75 = .ok (.aload_n 0, 1) := by decide +kernel
theorem dX0_greatestGroup_76 : decode cX0_greatestGroup 76 = .ok (.getfield 15, 3) := by decide +kernel
theorem dX0_greatestGroup_79 : decode cX0_greatestGroup 79 = .ok (.iload 4, 2) := by decide +kernel
theorem dX0_greatestGroup_81 : decode cX0_greatestGroup 81 = .ok (.iaload, 1) := by decide +kernel
theorem dX0_greatestGroup_82 : decode cX0_greatestGroup 82 = .ok (.invokestatic 77, 3) := by decide +kernel
theorem dX0_greatestGroup_85 : decode cX0_greatestGroup 85 = .ok (.istore_n 2, 1) := by decide +kernel
theorem dX0_greatestGroup_86 : decode cX0_greatestGroup 86 = .ok (.iinc 3 1, 3) := by decide +kernel
theorem dX0_greatestGroup_89 : decode cX0_greatestGroup 89 = .ok (.goto (-77), 3) := by decide +kernel
theorem dX0_greatestGroup_92 : decode cX0_greatestGroup 92 = .ok (.iload_n 2, 1) := by decide +kernel
theorem dX0_greatestGroup_93 : decode cX0_greatestGroup 93 = .ok (.ireturn, 1) := by decide +kernel
theorem dX1_init_0 : decode cX1_init 0 = .ok (.aload_n 0, 1) := by decide +kernel
theorem dX1_init_1 : decode cX1_init 1 = .ok (.invokespecial 3, 3) := by decide +kernel
theorem dX1_init_4 : decode cX1_init 4 = .ok (.aload_n 0, 1) := by decide +kernel
theorem dX1_init_5 : decode cX1_init 5 = .ok (.bipush 6, 2) := by decide +kernel
theorem dX1_init_7 : decode cX1_init 7 = .ok (.newarray .int, 2) := by decide +kernel
theorem dX1_init_9 : decode cX1_init 9 = .ok (.putfield 9, 3) := by decide +kernel
theorem dX1_init_12 : decode cX1_init 12 = .ok (.aload_n 0, 1) := by decide +kernel
theorem dX1_init_13 : decode cX1_init 13 = .ok (.bipush 6, 2) := by decide +kernel
theorem dX1_init_15 : decode cX1_init 15 = .ok (.newarray .int, 2) := by decide +kernel
theorem dX1_init_17 : decode cX1_init 17 = .ok (.putfield 15, 3) := by decide +kernel
theorem dX1_init_20 : decode cX1_init 20 = .ok (.aload_n 0, 1) := by decide +kernel
theorem dX1_init_21 : decode cX1_init 21 = .ok (.bipush 8, 2) := by decide +kernel
theorem dX1_init_23 : decode cX1_init 23 = .ok (.newarray .int, 2) := by decide +kernel
theorem dX1_init_25 : decode cX1_init 25 = .ok (.putfield 18, 3) := by decide +kernel
theorem dX1_init_28 : decode cX1_init 28 = .ok (.aload_n 0, 1) := by decide +kernel
theorem dX1_init_29 : decode cX1_init 29 = .ok (.bipush 8, 2) := by decide +kernel
theorem dX1_init_31 : decode cX1_init 31 = .ok (.newarray .int, 2) := by decide +kernel
theorem dX1_init_33 : decode cX1_init 33 = .ok (.putfield 21, 3) := by decide +kernel
theorem dX1_init_36 : decode cX1_init 36 = .ok (.aload_n 0, 1) := by decide +kernel
theorem dX1_init_37 : decode cX1_init 37 = .ok (.bipush 12, 2) := by decide +kernel
theorem dX1_init_39 : decode cX1_init 39 = .ok (.newarray .int, 2) := by decide +kernel
theorem dX1_init_41 : decode cX1_init 41 = .ok (.putfield 24, 3) := by decide +kernel
theorem dX1_init_44 : decode cX1_init 44 = .ok (.aload_n 0, 1) := by decide +kernel
theorem dX1_init_45 : decode cX1_init 45 = .ok (.bipush 12, 2) := by decide +kernel
theorem dX1_init_47 : decode cX1_init 47 = .ok (.newarray .int, 2) := by decide +kernel
theorem dX1_init_49 : decode cX1_init 49 = .ok (.putfield 27, 3) := by decide +kernel
theorem dX1_init_52 : decode cX1_init 52 = .ok (.aload_n 0, 1) := by decide +kernel
theorem dX1_init_53 : decode cX1_init 53 = .ok (.bipush 12, 2) := by decide +kernel
theorem dX1_init_55 : decode cX1_init 55 = .ok (.newarray .int, 2) := by decide +kernel
theorem dX1_init_57 : decode cX1_init 57 = .ok (.putfield 30, 3) := by decide +kernel
theorem dX1_init_60 : decode cX1_init 60 = .ok (.aload_n 0, 1) := by decide +kernel
theorem dX1_init_61 : decode cX1_init 61 = .ok (.bipush 8, 2) := by decide +kernel
theorem dX1_init_63 : decode cX1_init 63 = .ok (.newarray .int, 2) := by decide +kernel
theorem dX1_init_65 : decode cX1_init 65 = .ok (.putfield 33, 3) := by decide +kernel
theorem dX1_init_68 : decode cX1_init 68 = .ok (.aload_n 0, 1) := by decide +kernel
theorem dX1_init_69 : decode cX1_init 69 = .ok (.bipush 12, 2) := by decide +kernel
theorem dX1_init_71 : decode cX1_init 71 = .ok (.newarray .int, 2) := by decide +kernel
theorem dX1_init_73 : decode cX1_init 73 = .ok (.putfield 36, 3) := by decide +kernel
theorem dX1_init_76 : decode cX1_init 76 = .ok (.return_, 1) := by decide +kernel
theorem dX1_hasShip_0 : decode cX1_hasShip 0 = .ok (.iload_n 1, 1) := by decide +kernel
theorem dX1_hasShip_1 : decode cX1_hasShip 1 = .ok (.ifCond .lt 15, 3) := by decide +kernel
theorem dX1_hasShip_4 : decode cX1_hasShip 4 = .ok (.iload_n 1, 1) := by decide +kernel
theorem dX1_hasShip_5 : decode cX1_hasShip 5 = .ok (.aload_n 0, 1) := by decide +kernel
theorem dX1_hasShip_6 : decode cX1_hasShip 6 = .ok (.getfield 39, 3) := by decide +kernel
theorem dX1_hasShip_9 : decode cX1_hasShip 9 = .ok (.if_icmp .ge 7, 3) := by decide +kernel
theorem dX1_hasShip_12 : decode cX1_hasShip 12 = .ok (.iconst 1, 1) := by decide +kernel
theorem dX1_hasShip_13 : decode cX1_hasShip 13 = .ok (.goto 4, 3) := by decide +kernel
theorem dX1_hasShip_16 : decode cX1_hasShip 16 = .ok (.iconst 0, 1) := by decide +kernel
theorem dX1_hasShip_17 : decode cX1_hasShip 17 = .ok (.ireturn, 1) := by decide +kernel
theorem dX1_hasName_0 : decode cX1_hasName 0 = .ok (.iload_n 1, 1) := by decide +kernel
theorem dX1_hasName_1 : decode cX1_hasName 1 = .ok (.ifCond .lt 15, 3) := by decide +kernel
theorem dX1_hasName_4 : decode cX1_hasName 4 = .ok (.iload_n 1, 1) := by decide +kernel
theorem dX1_hasName_5 : decode cX1_hasName 5 = .ok (.aload_n 0, 1) := by decide +kernel
theorem dX1_hasName_6 : decode cX1_hasName 6 = .ok (.getfield 43, 3) := by decide +kernel
theorem dX1_hasName_9 : decode cX1_hasName 9 = .ok (.if_icmp .ge 7, 3) := by decide +kernel
theorem dX1_hasName_12 : decode cX1_hasName 12 = .ok (.iconst 1, 1) := by decide +kernel
theorem dX1_hasName_13 : decode cX1_hasName 13 = .ok (.goto 4, 3) := by decide +kernel
theorem dX1_hasName_16 : decode cX1_hasName 16 = .ok (.iconst 0, 1) := by decide +kernel
theorem dX1_hasName_17 : decode cX1_hasName 17 = .ok (.ireturn, 1) := by decide +kernel
theorem dX1_hasLine_0 : decode cX1_hasLine 0 = .ok (.iload_n 1, 1) := by decide +kernel
theorem dX1_hasLine_1 : decode cX1_hasLine 1 = .ok (.ifCond .lt 15, 3) := by decide +kernel
theorem dX1_hasLine_4 : decode cX1_hasLine 4 = .ok (.iload_n 1, 1) := by decide +kernel
theorem dX1_hasLine_5 : decode cX1_hasLine 5 = .ok (.aload_n 0, 1) := by decide +kernel
theorem dX1_hasLine_6 : decode cX1_hasLine 6 = .ok (.getfield 46, 3) := by decide +kernel
theorem dX1_hasLine_9 : decode cX1_hasLine 9 = .ok (.if_icmp .ge 7, 3) := by decide +kernel
theorem dX1_hasLine_12 : decode cX1_hasLine 12 = .ok (.iconst 1, 1) := by decide +kernel
theorem dX1_hasLine_13 : decode cX1_hasLine 13 = .ok (.goto 4, 3) := by decide +kernel
theorem dX1_hasLine_16 : decode cX1_hasLine 16 = .ok (.iconst 0, 1) := by decide +kernel
theorem dX1_hasLine_17 : decode cX1_hasLine 17 = .ok (.ireturn, 1) := by decide +kernel
theorem dX1_isDrowned_0 : decode cX1_isDrowned 0 = .ok (.aload_n 0, 1) := by decide +kernel
theorem dX1_isDrowned_1 : decode cX1_isDrowned 1 = .ok (.getfield 49, 3) := by decide +kernel
theorem dX1_isDrowned_4 : decode cX1_isDrowned 4 = .ok (.iload_n 1, 1) := by decide +kernel
theorem dX1_isDrowned_5 : decode cX1_isDrowned 5 = .ok (.ishr, 1) := by decide +kernel
theorem dX1_isDrowned_6 : decode cX1_isDrowned 6 = .ok (.iconst 1, 1) := by decide +kernel
theorem dX1_isDrowned_7 : decode cX1_isDrowned 7 = .ok (.iand, 1) := by decide +kernel
theorem dX1_isDrowned_8 : decode cX1_isDrowned 8 = .ok (.iconst 1, 1) := by decide +kernel
theorem dX1_isDrowned_9 : decode cX1_isDrowned 9 = .ok (.if_icmp .ne 7, 3) := by decide +kernel
theorem dX1_isDrowned_12 : decode cX1_isDrowned 12 = .ok (.iconst 1, 1) := by decide +kernel
theorem dX1_isDrowned_13 : decode cX1_isDrowned 13 = .ok (.goto 4, 3) := by decide +kernel
theorem dX1_isDrowned_16 : decode cX1_isDrowned 16 = .ok (.iconst 0, 1) := by decide +kernel
theorem dX1_isDrowned_17 : decode cX1_isDrowned 17 = .ok (.ireturn, 1) := by decide +kernel
theorem dX1_settleShips_0 : decode cX1_settleShips 0 = .ok (.aload_n 0, 1) := by decide +kernel
theorem dX1_settleShips_1 : decode cX1_settleShips 1 = .ok (.aload_n 1, 1) := by decide +kernel
theorem dX1_settleShips_2 : decode cX1_settleShips 2 = .ok (.invokevirtual 52, 3) := by decide +kernel
theorem dX1_settleShips_5 : decode cX1_settleShips 5 = .ok (.bipush 6, 2) := by decide +kernel
theorem dX1_settleShips_7 : decode cX1_settleShips 7 = .ok (.invokestatic 58, 3) := by decide +kernel
theorem dX1_settleShips_10 : decode cX1_settleShips 10 = .ok (.putfield 39, 3) := by decide +kernel
theorem dX1_settleShips_13 : decode cX1_settleShips 13 = .ok (.iconst 0, 1) := by decide +kernel
theorem dX1_settleShips_14 : decode cX1_settleShips 14 = .ok (.istore_n 2, 1) := by decide +kernel
theorem dX1_settleShips_15 : decode cX1_settleShips 15 = .ok (.iload_n 2, 1) := by decide +kernel
theorem dX1_settleShips_16 : decode cX1_settleShips 16 = .ok (.aload_n 0, 1) := by decide +kernel
theorem dX1_settleShips_17 : decode cX1_settleShips 17 = .ok (.getfield 39, 3) := by decide +kernel
theorem dX1_settleShips_20 : decode cX1_settleShips 20 = .ok (.if_icmp .ge 40, 3) := by decide +kernel
theorem dX1_settleShips_23 : decode cX1_settleShips 23 = .ok (.iload_n 2, 1) := by decide +kernel
theorem dX1_settleShips_24 : decode cX1_settleShips 24 = .ok (.aload_n 1, 1) := by decide +kernel
theorem dX1_settleShips_25 : decode cX1_settleShips 25 = .ok (.getfield 64, 3) := by decide +kernel
theorem dX1_settleShips_28 : decode cX1_settleShips 28 = .ok (.imul, 1) := by decide +kernel
theorem dX1_settleShips_29 : decode cX1_settleShips 29 = .ok (.istore_n 3, 1) := by decide +kernel
theorem dX1_settleShips_30 : decode cX1_settleShips 30 = .ok (.aload_n 0, 1) := by decide +kernel
theorem dX1_settleShips_31 : decode cX1_settleShips 31 = .ok (.getfield 9, 3) := by decide +kernel
theorem dX1_settleShips_34 : decode cX1_settleShips 34 = .ok (.iload_n 2, 1) := by decide +kernel
theorem dX1_settleShips_35 : decode cX1_settleShips 35 = .ok (.aload_n 1, 1) := by decide +kernel
theorem dX1_settleShips_36 : decode cX1_settleShips 36 = .ok (.iload_n 3, 1) := by decide +kernel
theorem dX1_settleShips_37 : decode cX1_settleShips 37 = .ok (.invokevirtual 67, 3) := by decide +kernel
theorem dX1_settleShips_40 : decode cX1_settleShips 40 = .ok (.iastore, 1) := by decide +kernel
theorem dX1_settleShips_41 : decode cX1_settleShips 41 = .ok (.aload_n 0, 1) := by decide +kernel
theorem dX1_settleShips_42 : decode cX1_settleShips 42 = .ok (.getfield 15, 3) := by decide +kernel
theorem dX1_settleShips_45 : decode cX1_settleShips 45 = .ok (.iload_n 2, 1) := by decide +kernel
theorem dX1_settleShips_46 : decode cX1_settleShips 46 = .ok (.aload_n 1, 1) := by decide +kernel
theorem dX1_settleShips_47 : decode cX1_settleShips 47 = .ok (.iload_n 3, 1) := by decide +kernel
theorem dX1_settleShips_48 : decode cX1_settleShips 48 = .ok (.iconst 2, 1) := by decide +kernel
theorem dX1_settleShips_49 : decode cX1_settleShips 49 = .ok (.iadd, 1) := by decide +kernel
theorem dX1_settleShips_50 : decode cX1_settleShips 50 = .ok (.invokevirtual 71, 3) := by decide +kernel
theorem dX1_settleShips_53 : decode cX1_settleShips 53 = .ok (.iastore, 1) := by decide +kernel
theorem dX1_settleShips_54 : decode cX1_settleShips 54 = .ok (.iinc 2 1, 3) := by decide +kernel
theorem dX1_settleShips_57 : decode cX1_settleShips 57 = .ok (.goto (-42), 3) := by decide +kernel
theorem dX1_settleShips_60 : decode cX1_settleShips 60 = .ok (.return_, 1) := by decide +kernel
theorem dX1_settleNames_0 : decode cX1_settleNames 0 = .ok (.aload_n 0, 1) := by decide +kernel
theorem dX1_settleNames_1 : decode cX1_settleNames 1 = .ok (.aload_n 1, 1) := by decide +kernel
theorem dX1_settleNames_2 : decode cX1_settleNames 2 = .ok (.invokevirtual 52, 3) := by decide +kernel
theorem dX1_settleNames_5 : decode cX1_settleNames 5 = .ok (.bipush 8, 2) := by decide +kernel
theorem dX1_settleNames_7 : decode cX1_settleNames 7 = .ok (.invokestatic 58, 3) := by decide +kernel
theorem dX1_settleNames_10 : decode cX1_settleNames 10 = .ok (.putfield 43, 3) := by decide +kernel
theorem dX1_settleNames_13 : decode cX1_settleNames 13 = .ok (.aload_n 0, 1) := by decide +kernel
theorem dX1_settleNames_14 : decode cX1_settleNames 14 = .ok (.iconst 0, 1) := by decide +kernel
theorem dX1_settleNames_15 : decode cX1_settleNames 15 = .ok (.putfield 49, 3) := by decide +kernel
theorem dX1_settleNames_18 : decode cX1_settleNames 18 = .ok (.iconst 0, 1) := by decide +kernel
theorem dX1_settleNames_19 : decode cX1_settleNames 19 = .ok (.istore_n 2, 1) := by decide +kernel
theorem dX1_settleNames_20 : decode cX1_settleNames 20 = .ok (.iload_n 2, 1) := by decide +kernel
theorem dX1_settleNames_21 : decode cX1_settleNames 21 = .ok (.aload_n 0, 1) := by decide +kernel
theorem dX1_settleNames_22 : decode cX1_settleNames 22 = .ok (.getfield 43, 3) := by decide +kernel
theorem dX1_settleNames_25 : decode cX1_settleNames 25 = .ok (.if_icmp .ge 86, 3) := by decide +kernel
theorem dX1_settleNames_28 : decode cX1_settleNames 28 = .ok (.iload_n 2, 1) := by decide +kernel
theorem dX1_settleNames_29 : decode cX1_settleNames 29 = .ok (.aload_n 1, 1) := by decide +kernel
theorem dX1_settleNames_30 : decode cX1_settleNames 30 = .ok (.getfield 64, 3) := by decide +kernel
theorem dX1_settleNames_33 : decode cX1_settleNames 33 = .ok (.imul, 1) := by decide +kernel
theorem dX1_settleNames_34 : decode cX1_settleNames 34 = .ok (.istore_n 3, 1) := by decide +kernel
theorem dX1_settleNames_35 : decode cX1_settleNames 35 = .ok (.aload_n 0, 1) := by decide +kernel
theorem dX1_settleNames_36 : decode cX1_settleNames 36 = .ok (.getfield 18, 3) := by decide +kernel
theorem dX1_settleNames_39 : decode cX1_settleNames 39 = .ok (.iload_n 2, 1) := by decide +kernel
theorem dX1_settleNames_40 : decode cX1_settleNames 40 = .ok (.aload_n 1, 1) := by decide +kernel
theorem dX1_settleNames_41 : decode cX1_settleNames 41 = .ok (.iload_n 3, 1) := by decide +kernel
theorem dX1_settleNames_42 : decode cX1_settleNames 42 = .ok (.invokevirtual 67, 3) := by decide +kernel
theorem dX1_settleNames_45 : decode cX1_settleNames 45 = .ok (.iastore, 1) := by decide +kernel
theorem dX1_settleNames_46 : decode cX1_settleNames 46 = .ok (.aload_n 0, 1) := by decide +kernel
theorem dX1_settleNames_47 : decode cX1_settleNames 47 = .ok (.dup, 1) := by decide +kernel
theorem dX1_settleNames_48 : decode cX1_settleNames 48 = .ok (.getfield 49, 3) := by decide +kernel
theorem dX1_settleNames_51 : decode cX1_settleNames 51 = .ok (.aload_n 1, 1) := by decide +kernel
theorem dX1_settleNames_52 : decode cX1_settleNames 52 = .ok (.iload_n 3, 1) := by decide +kernel
theorem dX1_settleNames_53 : decode cX1_settleNames 53 = .ok (.iconst 2, 1) := by decide +kernel
theorem dX1_settleNames_54 : decode cX1_settleNames 54 = .ok (.iadd, 1) := by decide +kernel
theorem dX1_settleNames_55 : decode cX1_settleNames 55 = .ok (.invokevirtual 74, 3) := by decide +kernel
theorem dX1_settleNames_58 : decode cX1_settleNames 58 = .ok (.bipush 100, 2) := by decide +kernel
theorem dX1_settleNames_60 : decode cX1_settleNames 60 = .ok (.if_icmp .ne 9, 3) := by decide +kernel
theorem dX1_settleNames_63 : decode cX1_settleNames 63 = .ok (.iconst 1, 1) := by decide +kernel
theorem dX1_settleNames_64 : decode cX1_settleNames 64 = .ok (.iload_n 2, 1) := by decide +kernel
theorem dX1_settleNames_65 : decode cX1_settleNames 65 = .ok (.ishl, 1) := by decide +kernel
theorem dX1_settleNames_66 : decode cX1_settleNames 66 = .ok (.goto 4, 3) := by decide +kernel
theorem dX1_settleNames_69 : decode cX1_settleNames 69 = .ok (.iconst 0, 1) := by decide +kernel
theorem dX1_settleNames_70 : decode cX1_settleNames 70 = .ok (.ior, 1) := by decide +kernel
theorem dX1_settleNames_71 : decode cX1_settleNames 71 = .ok (.putfield 49, 3) := by decide +kernel
theorem dX1_settleNames_74 : decode cX1_settleNames 74 = .ok (.aload_n 1, 1) := by decide +kernel
theorem dX1_settleNames_75 : decode cX1_settleNames 75 = .ok (.iload_n 3, 1) := by decide +kernel
theorem dX1_settleNames_76 : decode cX1_settleNames 76 = .ok (.iconst 3, 1) := by decide +kernel
theorem dX1_settleNames_77 : decode cX1_settleNames 77 = .ok (.iadd, 1) := by decide +kernel
theorem dX1_settleNames_78 : decode cX1_settleNames 78 = .ok (.invokevirtual 74, 3) := by decide +kernel
theorem dX1_settleNames_81 : decode cX1_settleNames 81 = .ok (.istore 4, 2) := by decide +kernel
theorem dX1_settleNames_83 : decode cX1_settleNames 83 = .ok (.aload_n 0, 1) := by decide +kernel
theorem dX1_settleNames_84 : decode cX1_settleNames 84 = .ok (.getfield 21, 3) := by decide +kernel
theorem dX1_settleNames_87 : decode cX1_settleNames 87 = .ok (.iload_n 2, 1) := by decide +kernel
theorem dX1_settleNames_88 : decode cX1_settleNames 88 = .ok (.iload 4, 2) := by decide +kernel
theorem dX1_settleNames_90 : decode cX1_settleNames 90 = .ok (.bipush 46, 2) := by decide +kernel
theorem dX1_settleNames_92 : decode cX1_settleNames 92 = .ok (.if_icmp .ne 7, 3) := by decide +kernel
theorem dX1_settleNames_95 : decode cX1_settleNames 95 = .ok (.iconst (-1), 1) := by decide +kernel
theorem dX1_settleNames_96 : decode cX1_settleNames 96 = .ok (.goto 8, 3) := by decide +kernel
theorem dX1_settleNames_99 : decode cX1_settleNames 99 = .ok (.iload 4, 2) := by decide +kernel
theorem dX1_settleNames_101 : decode cX1_settleNames 101 = .ok (.bipush 97, 2) := by decide +kernel
theorem dX1_settleNames_103 : decode cX1_settleNames 103 = .ok (.isub, 1) := by decide +kernel
theorem dX1_settleNames_104 : decode cX1_settleNames 104 = .ok (.iastore, 1) := by decide +kernel
theorem dX1_settleNames_105 : decode cX1_settleNames 105 = .ok (.iinc 2 1, 3) := by decide +kernel
theorem dX1_settleNames_108 : decode cX1_settleNames 108 = .ok (.goto (-88), 3) := by decide +kernel
theorem dX1_settleNames_111 : decode cX1_settleNames 111 = .ok (.return_, 1) := by decide +kernel
theorem dX1_settleLines_0 : decode cX1_settleLines 0 = .ok (.aload_n 0, 1) := by decide +kernel
theorem dX1_settleLines_1 : decode cX1_settleLines 1 = .ok (.aload_n 1, 1) := by decide +kernel
theorem dX1_settleLines_2 : decode cX1_settleLines 2 = .ok (.invokevirtual 52, 3) := by decide +kernel
theorem dX1_settleLines_5 : decode cX1_settleLines 5 = .ok (.bipush 12, 2) := by decide +kernel
theorem dX1_settleLines_7 : decode cX1_settleLines 7 = .ok (.invokestatic 58, 3) := by decide +kernel
theorem dX1_settleLines_10 : decode cX1_settleLines 10 = .ok (.putfield 46, 3) := by decide +kernel
theorem dX1_settleLines_13 : decode cX1_settleLines 13 = .ok (.iconst 0, 1) := by decide +kernel
theorem dX1_settleLines_14 : decode cX1_settleLines 14 = .ok (.istore_n 2, 1) := by decide +kernel
theorem dX1_settleLines_15 : decode cX1_settleLines 15 = .ok (.iload_n 2, 1) := by decide +kernel
theorem dX1_settleLines_16 : decode cX1_settleLines 16 = .ok (.aload_n 0, 1) := by decide +kernel
theorem dX1_settleLines_17 : decode cX1_settleLines 17 = .ok (.getfield 46, 3) := by decide +kernel
theorem dX1_settleLines_20 : decode cX1_settleLines 20 = .ok (.if_icmp .ge 56, 3) := by decide +kernel
theorem dX1_settleLines_23 : decode cX1_settleLines 23 = .ok (.iload_n 2, 1) := by decide +kernel
theorem dX1_settleLines_24 : decode cX1_settleLines 24 = .ok (.aload_n 1, 1) := by decide +kernel
theorem dX1_settleLines_25 : decode cX1_settleLines 25 = .ok (.getfield 64, 3) := by decide +kernel
theorem dX1_settleLines_28 : decode cX1_settleLines 28 = .ok (.imul, 1) := by decide +kernel
theorem dX1_settleLines_29 : decode cX1_settleLines 29 = .ok (.istore_n 3, 1) := by decide +kernel
theorem dX1_settleLines_30 : decode cX1_settleLines 30 = .ok (.aload_n 0, 1) := by decide +kernel
theorem dX1_settleLines_31 : decode cX1_settleLines 31 = .ok (.getfield 24, 3) := by decide +kernel
theorem dX1_settleLines_34 : decode cX1_settleLines 34 = .ok (.iload_n 2, 1) := by decide +kernel
theorem dX1_settleLines_35 : decode cX1_settleLines 35 = .ok (.aload_n 1, 1) := by decide +kernel
theorem dX1_settleLines_36 : decode cX1_settleLines 36 = .ok (.iload_n 3, 1) := by decide +kernel
theorem dX1_settleLines_37 : decode cX1_settleLines 37 = .ok (.invokevirtual 71, 3) := by decide +kernel
theorem dX1_settleLines_40 : decode cX1_settleLines 40 = .ok (.iastore, 1) := by decide +kernel
theorem dX1_settleLines_41 : decode cX1_settleLines 41 = .ok (.aload_n 0, 1) := by decide +kernel
theorem dX1_settleLines_42 : decode cX1_settleLines 42 = .ok (.getfield 27, 3) := by decide +kernel
theorem dX1_settleLines_45 : decode cX1_settleLines 45 = .ok (.iload_n 2, 1) := by decide +kernel
theorem dX1_settleLines_46 : decode cX1_settleLines 46 = .ok (.aload_n 1, 1) := by decide +kernel
theorem dX1_settleLines_47 : decode cX1_settleLines 47 = .ok (.iload_n 3, 1) := by decide +kernel
theorem dX1_settleLines_48 : decode cX1_settleLines 48 = .ok (.iconst 1, 1) := by decide +kernel
theorem dX1_settleLines_49 : decode cX1_settleLines 49 = .ok (.iadd, 1) := by decide +kernel
theorem dX1_settleLines_50 : decode cX1_settleLines 50 = .ok (.invokevirtual 74, 3) := by decide +kernel
theorem dX1_settleLines_53 : decode cX1_settleLines 53 = .ok (.bipush 97, 2) := by decide +kernel
theorem dX1_settleLines_55 : decode cX1_settleLines 55 = .ok (.isub, 1) := by decide +kernel
theorem dX1_settleLines_56 : decode cX1_settleLines 56 = .ok (.iastore, 1) := by decide +kernel
theorem dX1_settleLines_57 : decode cX1_settleLines 57 = .ok (.aload_n 0, 1) := by decide +kernel
theorem dX1_settleLines_58 : decode cX1_settleLines 58 = .ok (.getfield 30, 3) := by decide +kernel
theorem dX1_settleLines_61 : decode cX1_settleLines 61 = .ok (.iload_n 2, 1) := by decide +kernel
theorem dX1_settleLines_62 : decode cX1_settleLines 62 = .ok (.aload_n 1, 1) := by decide +kernel
theorem dX1_settleLines_63 : decode cX1_settleLines 63 = .ok (.iload_n 3, 1) := by decide +kernel
theorem dX1_settleLines_64 : decode cX1_settleLines 64 = .ok (.iconst 2, 1) := by decide +kernel
theorem dX1_settleLines_65 : decode cX1_settleLines 65 = .ok (.iadd, 1) := by decide +kernel
theorem dX1_settleLines_66 : decode cX1_settleLines 66 = .ok (.invokevirtual 67, 3) := by decide +kernel
theorem dX1_settleLines_69 : decode cX1_settleLines 69 = .ok (.iastore, 1) := by decide +kernel
theorem dX1_settleLines_70 : decode cX1_settleLines 70 = .ok (.iinc 2 1, 3) := by decide +kernel
theorem dX1_settleLines_73 : decode cX1_settleLines 73 = .ok (.goto (-58), 3) := by decide +kernel
theorem dX1_settleLines_76 : decode cX1_settleLines 76 = .ok (.return_, 1) := by decide +kernel
theorem dX1_strikeOut_0 : decode cX1_strikeOut 0 = .ok (.iconst 0, 1) := by decide +kernel
theorem dX1_strikeOut_1 : decode cX1_strikeOut 1 = .ok (.istore_n 2, 1) := by decide +kernel
theorem dX1_strikeOut_2 : decode cX1_strikeOut 2 = .ok (.iload_n 2, 1) := by decide +kernel
theorem dX1_strikeOut_3 : decode cX1_strikeOut 3 = .ok (.aload_n 0, 1) := by decide +kernel
theorem dX1_strikeOut_4 : decode cX1_strikeOut 4 = .ok (.getfield 43, 3) := by decide +kernel
theorem dX1_strikeOut_7 : decode cX1_strikeOut 7 = .ok (.if_icmp .ge 21, 3) := by decide +kernel
theorem dX1_strikeOut_10 : decode cX1_strikeOut 10 = .ok (.aload_n 0, 1) := by decide +kernel
theorem dX1_strikeOut_11 : decode cX1_strikeOut 11 = .ok (.getfield 33, 3) := by decide +kernel
theorem dX1_strikeOut_14 : decode cX1_strikeOut 14 = .ok (.iload_n 2, 1) := by decide +kernel
theorem dX1_strikeOut_15 : decode cX1_strikeOut 15 = .ok (.aload_n 0, 1) := by decide +kernel
theorem dX1_strikeOut_16 : decode cX1_strikeOut 16 = .ok (.iload_n 2, 1) := by decide +kernel
theorem dX1_strikeOut_17 : decode cX1_strikeOut 17 = .ok (.iload_n 1, 1) := by decide +kernel
theorem dX1_strikeOut_18 : decode cX1_strikeOut 18 = .ok (.invokevirtual 77, 3) := by decide +kernel
theorem dX1_strikeOut_21 : decode cX1_strikeOut 21 = .ok (.iastore, 1) := by decide +kernel
theorem dX1_strikeOut_22 : decode cX1_strikeOut 22 = .ok (.iinc 2 1, 3) := by decide +kernel
theorem dX1_strikeOut_25 : decode cX1_strikeOut 25 = .ok (.goto (-23), 3) := by decide +kernel
theorem dX1_strikeOut_28 : decode cX1_strikeOut 28 = .ok (.iconst 0, 1) := by decide +kernel
theorem dX1_strikeOut_29 : decode cX1_strikeOut 29 = .ok (.istore_n 2, 1) := by decide +kernel
theorem dX1_strikeOut_30 : decode cX1_strikeOut 30 = .ok (.iload_n 2, 1) := by decide +kernel
theorem dX1_strikeOut_31 : decode cX1_strikeOut 31 = .ok (.aload_n 0, 1) := by decide +kernel
theorem dX1_strikeOut_32 : decode cX1_strikeOut 32 = .ok (.getfield 46, 3) := by decide +kernel
theorem dX1_strikeOut_35 : decode cX1_strikeOut 35 = .ok (.if_icmp .ge 34, 3) := by decide +kernel
theorem dX1_strikeOut_38 : decode cX1_strikeOut 38 = .ok (.aload_n 0, 1) := by decide +kernel
theorem dX1_strikeOut_39 : decode cX1_strikeOut 39 = .ok (.getfield 36, 3) := by decide +kernel
theorem dX1_strikeOut_42 : decode cX1_strikeOut 42 = .ok (.iload_n 2, 1) := by decide +kernel
theorem dX1_strikeOut_43 : decode cX1_strikeOut 43 = .ok (.aload_n 0, 1) := by decide +kernel
theorem dX1_strikeOut_44 : decode cX1_strikeOut 44 = .ok (.iload_n 2, 1) := by decide +kernel
theorem dX1_strikeOut_45 : decode cX1_strikeOut 45 = .ok (.iload_n 1, 1) := by decide +kernel
theorem dX1_strikeOut_46 : decode cX1_strikeOut 46 = .ok (.invokevirtual 80, 3) := by decide +kernel
theorem dX1_strikeOut_49 : decode cX1_strikeOut 49 = .ok (.ifCond .eq 7, 3) := by decide +kernel
theorem dX1_strikeOut_52 : decode cX1_strikeOut 52 = .ok (.iconst 0, 1) := by decide +kernel
theorem dX1_strikeOut_53 : decode cX1_strikeOut 53 = .ok (.goto 9, 3) := by decide +kernel
theorem dX1_strikeOut_56 : decode cX1_strikeOut 56 = .ok (.aload_n 0, 1) := by decide +kernel
theorem dX1_strikeOut_57 : decode cX1_strikeOut 57 = .ok (.iload_n 2, 1) := by decide +kernel
theorem dX1_strikeOut_58 : decode cX1_strikeOut 58 = .ok (.iload_n 1, 1) := by decide +kernel
theorem dX1_strikeOut_59 : decode cX1_strikeOut 59 = .ok (.invokevirtual 84, 3) := by decide +kernel
theorem dX1_strikeOut_62 : decode cX1_strikeOut 62 = .ok (.iastore, 1) := by decide +kernel
theorem dX1_strikeOut_63 : decode cX1_strikeOut 63 = .ok (.iinc 2 1, 3) := by decide +kernel
theorem dX1_strikeOut_66 : decode cX1_strikeOut 66 = .ok (.goto (-36), 3) := by decide +kernel
theorem dX1_strikeOut_69 : decode cX1_strikeOut 69 = .ok (.return_, 1) := by decide +kernel
theorem dX1_bearerOf_0 : decode cX1_bearerOf 0 = .ok (.iload_n 1, 1) := by decide +kernel
theorem dX1_bearerOf_1 : decode cX1_bearerOf 1 = .ok (.istore_n 3, 1) := by decide +kernel
theorem dX1_bearerOf_2 : decode cX1_bearerOf 2 = .ok (.iconst 0, 1) := by decide +kernel
theorem dX1_bearerOf_3 : decode cX1_bearerOf 3 = .ok (.istore 4, 2) := by decide +kernel
theorem dX1_bearerOf_5 : decode cX1_bearerOf 5 = .ok (.iload 4, 2) := by decide +kernel
theorem dX1_bearerOf_7 : decode cX1_bearerOf 7 = .ok (.aload_n 0, 1) := by decide +kernel
theorem dX1_bearerOf_8 : decode cX1_bearerOf 8 = .ok (.getfield 43, 3) := by decide +kernel
theorem dX1_bearerOf_11 : decode cX1_bearerOf 11 = .ok (.if_icmp .ge 47, 3) := by decide +kernel
theorem dX1_bearerOf_14 : decode cX1_bearerOf 14 = .ok (.aload_n 0, 1) := by decide +kernel
theorem dX1_bearerOf_15 : decode cX1_bearerOf 15 = .ok (.getfield 21, 3) := by decide +kernel
theorem dX1_bearerOf_18 : decode cX1_bearerOf 18 = .ok (.iload_n 3, 1) := by decide +kernel
theorem dX1_bearerOf_19 : decode cX1_bearerOf 19 = .ok (.iaload, 1) := by decide +kernel
theorem dX1_bearerOf_20 : decode cX1_bearerOf 20 = .ok (.istore 5, 2) := by decide +kernel
theorem dX1_bearerOf_22 : decode cX1_bearerOf 22 = .ok (.iload 5, 2) := by decide +kernel
theorem dX1_bearerOf_24 : decode cX1_bearerOf 24 = .ok (.iload_n 3, 1) := by decide +kernel
theorem dX1_bearerOf_25 : decode cX1_bearerOf 25 = .ok (.if_icmp .eq 22, 3) := by decide +kernel
theorem dX1_bearerOf_28 : decode cX1_bearerOf 28 = .ok (.aload_n 0, 1) := by decide +kernel
theorem dX1_bearerOf_29 : decode cX1_bearerOf 29 = .ok (.iload 5, 2) := by decide +kernel
theorem dX1_bearerOf_31 : decode cX1_bearerOf 31 = .ok (.invokevirtual 87, 3) := by decide +kernel
theorem dX1_bearerOf_34 : decode cX1_bearerOf 34 = .ok (.ifCond .eq 13, 3) := by decide +kernel
theorem dX1_bearerOf_37 : decode cX1_bearerOf 37 = .ok (.iload_n 2, 1) := by decide +kernel
theorem dX1_bearerOf_38 : decode cX1_bearerOf 38 = .ok (.iload 5, 2) := by decide +kernel
theorem dX1_bearerOf_40 : decode cX1_bearerOf 40 = .ok (.ishr, 1) := by decide +kernel
theorem dX1_bearerOf_41 : decode cX1_bearerOf 41 = .ok (.iconst 1, 1) := by decide +kernel
theorem dX1_bearerOf_42 : decode cX1_bearerOf 42 = .ok (.iand, 1) := by decide +kernel
theorem dX1_bearerOf_43 : decode cX1_bearerOf 43 = .ok (.iconst 1, 1) := by decide +kernel
theorem dX1_bearerOf_44 : decode cX1_bearerOf 44 = .ok (.if_icmp .ne 5, 3) := by decide +kernel
theorem dX1_bearerOf_47 : decode cX1_bearerOf 47 = .ok (.iload_n 3, 1) := by decide +kernel
theorem dX1_bearerOf_48 : decode cX1_bearerOf 48 = .ok (.ireturn, 1) := by decide +kernel
theorem dX1_bearerOf_49 : decode cX1_bearerOf 49 = .ok (.iload 5, 2) := by decide +kernel
theorem dX1_bearerOf_51 : decode cX1_bearerOf 51 = .ok (.istore_n 3, 1) := by decide +kernel
theorem dX1_bearerOf_52 : decode cX1_bearerOf 52 = .ok (.iinc 4 1, 3) := by decide +kernel
theorem dX1_bearerOf_55 : decode cX1_bearerOf 55 = .ok (.goto (-50), 3) := by decide +kernel
theorem dX1_bearerOf_58 : decode cX1_bearerOf 58 = .ok (.iconst (-1), 1) := by decide +kernel
theorem dX1_bearerOf_59 : decode cX1_bearerOf 59 = .ok (.ireturn, 1) := by decide +kernel
theorem dX1_isVoid_0 : decode cX1_isVoid 0 = .ok (.aload_n 0, 1) := by decide +kernel
theorem dX1_isVoid_1 : decode cX1_isVoid 1 = .ok (.getfield 27, 3) := by decide +kernel
theorem dX1_isVoid_4 : decode cX1_isVoid 4 = .ok (.iload_n 1, 1) := by decide +kernel
theorem dX1_isVoid_5 : decode cX1_isVoid 5 = .ok (.iaload, 1) := by decide +kernel
theorem dX1_isVoid_6 : decode cX1_isVoid 6 = .ok (.istore_n 3, 1) := by decide +kernel
theorem dX1_isVoid_7 : decode cX1_isVoid 7 = .ok (.aload_n 0, 1) := by decide +kernel
theorem dX1_isVoid_8 : decode cX1_isVoid 8 = .ok (.aload_n 0, 1) := by decide +kernel
theorem dX1_isVoid_9 : decode cX1_isVoid 9 = .ok (.getfield 24, 3) := by decide +kernel
theorem dX1_isVoid_12 : decode cX1_isVoid 12 = .ok (.iload_n 1, 1) := by decide +kernel
theorem dX1_isVoid_13 : decode cX1_isVoid 13 = .ok (.iaload, 1) := by decide +kernel
theorem dX1_isVoid_14 : decode cX1_isVoid 14 = .ok (.invokevirtual 91, 3) := by decide +kernel
theorem dX1_isVoid_17 : decode cX1_isVoid 17 = .ok (.ifCond .eq 20, 3) := by decide +kernel
theorem dX1_isVoid_20 : decode cX1_isVoid 20 = .ok (.aload_n 0, 1) := by decide +kernel
theorem dX1_isVoid_21 : decode cX1_isVoid 21 = .ok (.iload_n 3, 1) := by decide +kernel
theorem dX1_isVoid_22 : decode cX1_isVoid 22 = .ok (.invokevirtual 87, 3) := by decide +kernel
theorem dX1_isVoid_25 : decode cX1_isVoid 25 = .ok (.ifCond .eq 12, 3) := by decide +kernel
theorem dX1_isVoid_28 : decode cX1_isVoid 28 = .ok (.iload_n 2, 1) := by decide +kernel
theorem dX1_isVoid_29 : decode cX1_isVoid 29 = .ok (.iload_n 3, 1) := by decide +kernel
theorem dX1_isVoid_30 : decode cX1_isVoid 30 = .ok (.ishr, 1) := by decide +kernel
theorem dX1_isVoid_31 : decode cX1_isVoid 31 = .ok (.iconst 1, 1) := by decide +kernel
theorem dX1_isVoid_32 : decode cX1_isVoid 32 = .ok (.iand, 1) := by decide +kernel
theorem dX1_isVoid_33 : decode cX1_isVoid 33 = .ok (.iconst 1, 1) := by decide +kernel
theorem dX1_isVoid_34 : decode cX1_isVoid 34 = .ok (.if_icmp .ne 7, 3) := by decide +kernel
theorem dX1_isVoid_37 : decode cX1_isVoid 37 = .ok (.iconst 1, 1) := by decide +kernel
theorem dX1_isVoid_38 : decode cX1_isVoid 38 = .ok (.goto 4, 3) := by decide +kernel
theorem dX1_isVoid_41 : decode cX1_isVoid 41 = .ok (.iconst 0, 1) := by decide +kernel
theorem dX1_isVoid_42 : decode cX1_isVoid 42 = .ok (.ireturn, 1) := by decide +kernel
theorem dX1_dueOfLine_0 : decode cX1_dueOfLine 0 = .ok (.aload_n 0, 1) := by decide +kernel
theorem dX1_dueOfLine_1 : decode cX1_dueOfLine 1 = .ok (.getfield 24, 3) := by decide +kernel
theorem dX1_dueOfLine_4 : decode cX1_dueOfLine 4 = .ok (.iload_n 1, 1) := by decide +kernel
theorem dX1_dueOfLine_5 : decode cX1_dueOfLine 5 = .ok (.iaload, 1) := by decide +kernel
theorem dX1_dueOfLine_6 : decode cX1_dueOfLine 6 = .ok (.istore_n 3, 1) := by decide +kernel
theorem dX1_dueOfLine_7 : decode cX1_dueOfLine 7 = .ok (.iconst 0, 1) := by decide +kernel
theorem dX1_dueOfLine_8 : decode cX1_dueOfLine 8 = .ok (.istore 4, 2) := by decide +kernel
theorem dX1_dueOfLine_10 : decode cX1_dueOfLine 10 = .ok (.iconst 0, 1) := by decide +kernel
theorem dX1_dueOfLine_11 : decode cX1_dueOfLine 11 = .ok (.istore 5, 2) := by decide +kernel
theorem dX1_dueOfLine_13 : decode cX1_dueOfLine 13 = .ok (.iload 5, 2) := by decide +kernel
theorem dX1_dueOfLine_15 : decode cX1_dueOfLine 15 = .ok (.aload_n 0, 1) := by decide +kernel
theorem dX1_dueOfLine_16 : decode cX1_dueOfLine 16 = .ok (.getfield 46, 3) := by decide +kernel
theorem dX1_dueOfLine_19 : decode cX1_dueOfLine 19 = .ok (.if_icmp .ge 46, 3) := by decide +kernel
theorem dX1_dueOfLine_22 : decode cX1_dueOfLine 22 = .ok (.iload 4, 2) := by decide +kernel
theorem dX1_dueOfLine_24 : decode cX1_dueOfLine 24 = .ok (.aload_n 0, 1) := by decide +kernel
theorem dX1_dueOfLine_25 : decode cX1_dueOfLine 25 = .ok (.getfield 24, 3) := by decide +kernel
theorem dX1_dueOfLine_28 : decode cX1_dueOfLine 28 = .ok (.iload 5, 2) := by decide +kernel
theorem dX1_dueOfLine_30 : decode cX1_dueOfLine 30 = .ok (.iaload, 1) := by decide +kernel
theorem dX1_dueOfLine_31 : decode cX1_dueOfLine 31 = .ok (.iload_n 3, 1) := by decide +kernel
theorem dX1_dueOfLine_32 : decode cX1_dueOfLine 32 = .ok (.if_icmp .ne 23, 3) := by decide +kernel
theorem dX1_dueOfLine_35 : decode cX1_dueOfLine 35 = .ok (.aload_n 0, 1) := by decide +kernel
theorem dX1_dueOfLine_36 : decode cX1_dueOfLine 36 = .ok (.iload 5, 2) := by decide +kernel
theorem dX1_dueOfLine_38 : decode cX1_dueOfLine 38 = .ok (.iload_n 2, 1) := by decide +kernel
theorem dX1_dueOfLine_39 : decode cX1_dueOfLine 39 = .ok (.invokevirtual 80, 3) := by decide +kernel
theorem dX1_dueOfLine_42 : decode cX1_dueOfLine 42 = .ok (.ifCond .ne 13, 3) := by decide +kernel
theorem dX1_dueOfLine_45 : decode cX1_dueOfLine 45 = .ok (.aload_n 0, 1) := by decide +kernel
theorem dX1_dueOfLine_46 : decode cX1_dueOfLine 46 = .ok (.getfield 30, 3) := by decide +kernel
theorem dX1_dueOfLine_49 : decode cX1_dueOfLine 49 = .ok (.iload 5, 2) := by decide +kernel
theorem dX1_dueOfLine_51 : decode cX1_dueOfLine 51 = .ok (.iaload, 1) := by decide +kernel
theorem dX1_dueOfLine_52 : decode cX1_dueOfLine 52 = .ok (.goto 4, 3) := by decide +kernel
theorem dX1_dueOfLine_55 : decode cX1_dueOfLine 55 = .ok (.iconst 0, 1) := by decide +kernel
theorem dX1_dueOfLine_56 : decode cX1_dueOfLine 56 = .ok (.iadd, 1) := by decide +kernel
theorem dX1_dueOfLine_57 : decode cX1_dueOfLine 57 = .ok (.istore 4, 2) := by decide +kernel
theorem dX1_dueOfLine_59 : decode cX1_dueOfLine 59 = .ok (.iinc 5 1, 3) := by decide +kernel
theorem dX1_dueOfLine_62 : decode cX1_dueOfLine 62 = .ok (.goto (-49), 3) := by decide +kernel
theorem dX1_dueOfLine_65 : decode cX1_dueOfLine 65 = .ok (.aload_n 0, 1) := by decide +kernel
theorem dX1_dueOfLine_66 : decode cX1_dueOfLine 66 = .ok (.getfield 30, 3) := by decide +kernel
theorem dX1_dueOfLine_69 : decode cX1_dueOfLine 69 = .ok (.iload_n 1, 1) := by decide +kernel
theorem dX1_dueOfLine_70 : decode cX1_dueOfLine 70 = .ok (.iaload, 1) := by decide +kernel
theorem dX1_dueOfLine_71 : decode cX1_dueOfLine 71 = .ok (.istore 5, 2) := by decide +kernel
theorem dX1_dueOfLine_73 : decode cX1_dueOfLine 73 = .ok (.iload 4, 2) := by decide +kernel
theorem dX1_dueOfLine_75 : decode cX1_dueOfLine 75 = .ok (.aload_n 0, 1) := by decide +kernel
theorem dX1_dueOfLine_76 : decode cX1_dueOfLine 76 = .ok (.getfield 9, 3) := by decide +kernel
theorem dX1_dueOfLine_79 : decode cX1_dueOfLine 79 = .ok (.iload_n 3, 1) := by decide +kernel
theorem dX1_dueOfLine_80 : decode cX1_dueOfLine 80 = .ok (.iaload, 1) := by decide +kernel
theorem dX1_dueOfLine_81 : decode cX1_dueOfLine 81 = .ok (.if_icmp .le 23, 3) := by decide +kernel
theorem dX1_dueOfLine_84 : decode cX1_dueOfLine 84 = .ok (.iload 4, 2) := by decide +kernel
theorem dX1_dueOfLine_86 : decode cX1_dueOfLine 86 = .ok (.ifCond .le 18, 3) := by decide +kernel
theorem dX1_dueOfLine_89 : decode cX1_dueOfLine 89 = .ok (.iload 5, 2) := by decide +kernel
theorem dX1_dueOfLine_91 : decode cX1_dueOfLine 91 = .ok (.aload_n 0, 1) := by decide +kernel
theorem dX1_dueOfLine_92 : decode cX1_dueOfLine 92 = .ok (.getfield 9, 3) := by decide +kernel
theorem dX1_dueOfLine_95 : decode cX1_dueOfLine 95 = .ok (.iload_n 3, 1) := by decide +kernel
theorem dX1_dueOfLine_96 : decode cX1_dueOfLine 96 = .ok (.iaload, 1) := by decide +kernel
theorem dX1_dueOfLine_97 : decode cX1_dueOfLine 97 = .ok (.imul, 1) := by decide +kernel
theorem dX1_dueOfLine_98 : decode cX1_dueOfLine 98 = .ok (.iload 4, 2) := by decide +kernel
theorem dX1_dueOfLine_100 : decode cX1_dueOfLine 100 = .ok (.idiv, 1) := by decide +kernel
theorem dX1_dueOfLine_101 : decode cX1_dueOfLine 101 = .ok (.goto 5, 3) := by decide +kernel
theorem dX1_dueOfLine_104 : decode cX1_dueOfLine 104 = .ok (.iload 5, 2) := by decide +kernel
theorem dX1_dueOfLine_106 : decode cX1_dueOfLine 106 = .ok (.ireturn, 1) := by decide +kernel
theorem dX1_namesBorneBy_0 : decode cX1_namesBorneBy 0 = .ok (.iconst 0, 1) := by decide +kernel
theorem dX1_namesBorneBy_1 : decode cX1_namesBorneBy 1 = .ok (.istore_n 2, 1) := by decide +kernel
theorem dX1_namesBorneBy_2 : decode cX1_namesBorneBy 2 = .ok (.iconst 0, 1) := by decide +kernel
theorem dX1_namesBorneBy_3 : decode cX1_namesBorneBy 3 = .ok (.istore_n 3, 1) := by decide +kernel
theorem dX1_namesBorneBy_4 : decode cX1_namesBorneBy 4 = .ok (.iload_n 3, 1) := by decide +kernel
theorem dX1_namesBorneBy_5 : decode cX1_namesBorneBy 5 = .ok (.aload_n 0, 1) := by decide +kernel
theorem dX1_namesBorneBy_6 : decode cX1_namesBorneBy 6 = .ok (.getfield 43, 3) := by decide +kernel
theorem dX1_namesBorneBy_9 : decode cX1_namesBorneBy 9 = .ok (.if_icmp .ge 29, 3) := by decide +kernel
theorem dX1_namesBorneBy_12 : decode cX1_namesBorneBy 12 = .ok (.iload_n 2, 1) := by decide +kernel
theorem dX1_namesBorneBy_13 : decode cX1_namesBorneBy 13 = .ok (.aload_n 0, 1) := by decide +kernel
theorem dX1_namesBorneBy_14 : decode cX1_namesBorneBy 14 = .ok (.getfield 33, 3) := by decide +kernel
theorem dX1_namesBorneBy_17 : decode cX1_namesBorneBy 17 = .ok (.iload_n 3, 1) := by decide +kernel
theorem dX1_namesBorneBy_18 : decode cX1_namesBorneBy 18 = .ok (.iaload, 1) := by decide +kernel
theorem dX1_namesBorneBy_19 : decode cX1_namesBorneBy 19 = .ok (.iload_n 1, 1) := by decide +kernel
theorem dX1_namesBorneBy_20 : decode cX1_namesBorneBy 20 = .ok (.if_icmp .ne 9, 3) := by decide +kernel
theorem dX1_namesBorneBy_23 : decode cX1_namesBorneBy 23 = .ok (.iconst 1, 1) := by decide +kernel
theorem dX1_namesBorneBy_24 : decode cX1_namesBorneBy 24 = .ok (.iload_n 3, 1) := by decide +kernel
theorem dX1_namesBorneBy_25 : decode cX1_namesBorneBy 25 = .ok (.ishl, 1) := by decide +kernel
theorem dX1_namesBorneBy_26 : decode cX1_namesBorneBy 26 = .ok (.goto 4, 3) := by decide +kernel
theorem dX1_namesBorneBy_29 : decode cX1_namesBorneBy 29 = .ok (.iconst 0, 1) := by decide +kernel
theorem dX1_namesBorneBy_30 : decode cX1_namesBorneBy 30 = .ok (.ior, 1) := by decide +kernel
theorem dX1_namesBorneBy_31 : decode cX1_namesBorneBy 31 = .ok (.istore_n 2, 1) := by decide +kernel
theorem dX1_namesBorneBy_32 : decode cX1_namesBorneBy 32 = .ok (.iinc 3 1, 3) := by decide +kernel
theorem dX1_namesBorneBy_35 : decode cX1_namesBorneBy 35 = .ok (.goto (-31), 3) := by decide +kernel
theorem dX1_namesBorneBy_38 : decode cX1_namesBorneBy 38 = .ok (.iload_n 2, 1) := by decide +kernel
theorem dX1_namesBorneBy_39 : decode cX1_namesBorneBy 39 = .ok (.ireturn, 1) := by decide +kernel
theorem dX1_dueOf_0 : decode cX1_dueOf 0 = .ok (.iconst 0, 1) := by decide +kernel
theorem dX1_dueOf_1 : decode cX1_dueOf 1 = .ok (.istore_n 3, 1) := by decide +kernel
theorem dX1_dueOf_2 : decode cX1_dueOf 2 = .ok (.iconst 0, 1) := by decide +kernel
theorem dX1_dueOf_3 : decode cX1_dueOf 3 = .ok (.istore 4, 2) := by decide +kernel
theorem dX1_dueOf_5 : decode cX1_dueOf 5 = .ok (.iload 4, 2) := by decide +kernel
theorem dX1_dueOf_7 : decode cX1_dueOf 7 = .ok (.aload_n 0, 1) := by decide +kernel
theorem dX1_dueOf_8 : decode cX1_dueOf 8 = .ok (.getfield 46, 3) := by decide +kernel
theorem dX1_dueOf_11 : decode cX1_dueOf 11 = .ok (.if_icmp .ge 56, 3) := by decide +kernel
theorem dX1_dueOf_14 : decode cX1_dueOf 14 = .ok (.aload_n 0, 1) := by decide +kernel
theorem dX1_dueOf_15 : decode cX1_dueOf 15 = .ok (.getfield 24, 3) := by decide +kernel
theorem dX1_dueOf_18 : decode cX1_dueOf 18 = .ok (.iload 4, 2) := by decide +kernel
theorem dX1_dueOf_20 : decode cX1_dueOf 20 = .ok (.iaload, 1) := by decide +kernel
theorem dX1_dueOf_21 : decode cX1_dueOf 21 = .ok (.iload_n 1, 1) := by decide +kernel
theorem dX1_dueOf_22 : decode cX1_dueOf 22 = .ok (.if_icmp .ne 39, 3) := by decide +kernel
theorem dX1_dueOf_25 : decode cX1_dueOf 25 = .ok (.aload_n 0, 1) := by decide +kernel
theorem dX1_dueOf_26 : decode cX1_dueOf 26 = .ok (.getfield 36, 3) := by decide +kernel
theorem dX1_dueOf_29 : decode cX1_dueOf 29 = .ok (.iload 4, 2) := by decide +kernel
theorem dX1_dueOf_31 : decode cX1_dueOf 31 = .ok (.iaload, 1) := by decide +kernel
theorem dX1_dueOf_32 : decode cX1_dueOf 32 = .ok (.ifCond .le 29, 3) := by decide +kernel
theorem dX1_dueOf_35 : decode cX1_dueOf 35 = .ok (.aload_n 0, 1) := by decide +kernel
theorem dX1_dueOf_36 : decode cX1_dueOf 36 = .ok (.getfield 33, 3) := by decide +kernel
theorem dX1_dueOf_39 : decode cX1_dueOf 39 = .ok (.aload_n 0, 1) := by decide +kernel
theorem dX1_dueOf_40 : decode cX1_dueOf 40 = .ok (.getfield 27, 3) := by decide +kernel
theorem dX1_dueOf_43 : decode cX1_dueOf 43 = .ok (.iload 4, 2) := by decide +kernel
theorem dX1_dueOf_45 : decode cX1_dueOf 45 = .ok (.iaload, 1) := by decide +kernel
theorem dX1_dueOf_46 : decode cX1_dueOf 46 = .ok (.iaload, 1) := by decide +kernel
theorem dX1_dueOf_47 : decode cX1_dueOf 47 = .ok (.iload_n 2, 1) := by decide +kernel
theorem dX1_dueOf_48 : decode cX1_dueOf 48 = .ok (.if_icmp .ne 13, 3) := by decide +kernel
theorem dX1_dueOf_51 : decode cX1_dueOf 51 = .ok (.iload_n 3, 1) := by decide +kernel
theorem dX1_dueOf_52 : decode cX1_dueOf 52 = .ok (.aload_n 0, 1) := by decide +kernel
theorem dX1_dueOf_53 : decode cX1_dueOf 53 = .ok (.getfield 36, 3) := by decide +kernel
theorem dX1_dueOf_56 : decode cX1_dueOf 56 = .ok (.iload 4, 2) := by decide +kernel
theorem dX1_dueOf_58 : decode cX1_dueOf 58 = .ok (.iaload, 1) := by decide +kernel
theorem dX1_dueOf_59 : decode cX1_dueOf 59 = .ok (.iadd, 1) := by decide +kernel
theorem dX1_dueOf_60 : decode cX1_dueOf 60 = .ok (.istore_n 3, 1) := by decide +kernel
theorem dX1_dueOf_61 : decode cX1_dueOf 61 = .ok (.iinc 4 1, 3) := by decide +kernel
theorem dX1_dueOf_64 : decode cX1_dueOf 64 = .ok (.goto (-59), 3) := by decide +kernel
theorem dX1_dueOf_67 : decode cX1_dueOf 67 = .ok (.iload_n 3, 1) := by decide +kernel
theorem dX1_dueOf_68 : decode cX1_dueOf 68 = .ok (.ireturn, 1) := by decide +kernel
theorem dX1_dueOfAllShips_0 : decode cX1_dueOfAllShips 0 = .ok (.iconst 0, 1) := by decide +kernel
theorem dX1_dueOfAllShips_1 : decode cX1_dueOfAllShips 1 = .ok (.istore_n 2, 1) := by decide +kernel
theorem dX1_dueOfAllShips_2 : decode cX1_dueOfAllShips 2 = .ok (.iconst 0, 1) := by decide +kernel
theorem dX1_dueOfAllShips_3 : decode cX1_dueOfAllShips 3 = .ok (.istore_n 3, 1) := by decide +kernel
theorem dX1_dueOfAllShips_4 : decode cX1_dueOfAllShips 4 = .ok (.iload_n 3, 1) := by decide +kernel
theorem dX1_dueOfAllShips_5 : decode cX1_dueOfAllShips 5 = .ok (.aload_n 0, 1) := by decide +kernel
theorem dX1_dueOfAllShips_6 : decode cX1_dueOfAllShips 6 = .ok (.getfield 39, 3) := by decide +kernel
theorem dX1_dueOfAllShips_9 : decode cX1_dueOfAllShips 9 = .ok (.if_icmp .ge 18, 3) := by decide +kernel
theorem dX1_dueOfAllShips_12 : decode cX1_dueOfAllShips 12 = .ok (.iload_n 2, 1) := by decide +kernel
theorem dX1_dueOfAllShips_13 : decode cX1_dueOfAllShips 13 = .ok (.aload_n 0, 1) := by decide +kernel
theorem dX1_dueOfAllShips_14 : decode cX1_dueOfAllShips 14 = .ok (.iload_n 3, 1) := by decide +kernel
theorem dX1_dueOfAllShips_15 : decode cX1_dueOfAllShips 15 = .ok (.iload_n 1, 1) := by decide +kernel
theorem dX1_dueOfAllShips_16 : decode cX1_dueOfAllShips 16 = .ok (.invokevirtual 94, 3) := by decide +kernel
theorem dX1_dueOfAllShips_19 : decode cX1_dueOfAllShips 19 = .ok (.iadd, 1) := by decide +kernel
theorem dX1_dueOfAllShips_20 : decode cX1_dueOfAllShips 20 = .ok (.istore_n 2, 1) := by decide +kernel
theorem dX1_dueOfAllShips_21 : decode cX1_dueOfAllShips 21 = .ok (.iinc 3 1, 3) := by decide +kernel
theorem dX1_dueOfAllShips_24 : decode cX1_dueOfAllShips 24 = .ok (.goto (-20), 3) := by decide +kernel
theorem dX1_dueOfAllShips_27 : decode cX1_dueOfAllShips 27 = .ok (.iload_n 2, 1) := by decide +kernel
theorem dX1_dueOfAllShips_28 : decode cX1_dueOfAllShips 28 = .ok (.ireturn, 1) := by decide +kernel
theorem dX1_hasTogether_0 : decode cX1_hasTogether 0 = .ok (.iconst 0, 1) := by decide +kernel
theorem dX1_hasTogether_1 : decode cX1_hasTogether 1 = .ok (.istore_n 2, 1) := by decide +kernel
theorem dX1_hasTogether_2 : decode cX1_hasTogether 2 = .ok (.iconst 0, 1) := by decide +kernel
theorem dX1_hasTogether_3 : decode cX1_hasTogether 3 = .ok (.istore_n 3, 1) := by decide +kernel
theorem dX1_hasTogether_4 : decode cX1_hasTogether 4 = .ok (.iload_n 3, 1) := by decide +kernel
theorem dX1_hasTogether_5 : decode cX1_hasTogether 5 = .ok (.aload_n 0, 1) := by decide +kernel
theorem dX1_hasTogether_6 : decode cX1_hasTogether 6 = .ok (.getfield 43, 3) := by decide +kernel
theorem dX1_hasTogether_9 : decode cX1_hasTogether 9 = .ok (.if_icmp .ge 31, 3) := by decide +kernel
theorem dX1_hasTogether_12 : decode cX1_hasTogether 12 = .ok (.iload_n 2, 1) := by decide +kernel
theorem dX1_hasTogether_13 : decode cX1_hasTogether 13 = .ok (.iload_n 1, 1) := by decide +kernel
theorem dX1_hasTogether_14 : decode cX1_hasTogether 14 = .ok (.iload_n 3, 1) := by decide +kernel
theorem dX1_hasTogether_15 : decode cX1_hasTogether 15 = .ok (.ishr, 1) := by decide +kernel
theorem dX1_hasTogether_16 : decode cX1_hasTogether 16 = .ok (.iconst 1, 1) := by decide +kernel
theorem dX1_hasTogether_17 : decode cX1_hasTogether 17 = .ok (.iand, 1) := by decide +kernel
theorem dX1_hasTogether_18 : decode cX1_hasTogether 18 = .ok (.iconst 1, 1) := by decide +kernel
theorem dX1_hasTogether_19 : decode cX1_hasTogether 19 = .ok (.if_icmp .ne 12, 3) := by decide +kernel
theorem dX1_hasTogether_22 : decode cX1_hasTogether 22 = .ok (.aload_n 0, 1) := by decide +kernel
theorem dX1_hasTogether_23 : decode cX1_hasTogether 23 = .ok (.getfield 18, 3) := by decide +kernel
theorem dX1_hasTogether_26 : decode cX1_hasTogether 26 = .ok (.iload_n 3, 1) := by decide +kernel
theorem dX1_hasTogether_27 : decode cX1_hasTogether 27 = .ok (.iaload, 1) := by decide +kernel
theorem dX1_hasTogether_28 : decode cX1_hasTogether 28 = .ok (.goto 4, 3) := by decide +kernel
theorem dX1_hasTogether_31 : decode cX1_hasTogether 31 = .ok (.iconst 0, 1) := by decide +kernel
theorem dX1_hasTogether_32 : decode cX1_hasTogether 32 = .ok (.iadd, 1) := by decide +kernel
theorem dX1_hasTogether_33 : decode cX1_hasTogether 33 = .ok (.istore_n 2, 1) := by decide +kernel
theorem dX1_hasTogether_34 : decode cX1_hasTogether 34 = .ok (.iinc 3 1, 3) := by decide +kernel
theorem dX1_hasTogether_37 : decode cX1_hasTogether 37 = .ok (.goto (-33), 3) := by decide +kernel
theorem dX1_hasTogether_40 : decode cX1_hasTogether 40 = .ok (.iload_n 2, 1) := by decide +kernel
theorem dX1_hasTogether_41 : decode cX1_hasTogether 41 = .ok (.ireturn, 1) := by decide +kernel
theorem dX1_chancesOf_0 : decode cX1_chancesOf 0 = .ok (.iconst 1, 1) := by decide +kernel
theorem dX1_chancesOf_1 : decode cX1_chancesOf 1 = .ok (.istore_n 2, 1) := by decide +kernel
theorem dX1_chancesOf_2 : decode cX1_chancesOf 2 = .ok (.iconst 0, 1) := by decide +kernel
theorem dX1_chancesOf_3 : decode cX1_chancesOf 3 = .ok (.istore_n 3, 1) := by decide +kernel
theorem dX1_chancesOf_4 : decode cX1_chancesOf 4 = .ok (.iload_n 3, 1) := by decide +kernel
theorem dX1_chancesOf_5 : decode cX1_chancesOf 5 = .ok (.aload_n 0, 1) := by decide +kernel
theorem dX1_chancesOf_6 : decode cX1_chancesOf 6 = .ok (.getfield 39, 3) := by decide +kernel
theorem dX1_chancesOf_9 : decode cX1_chancesOf 9 = .ok (.if_icmp .ge 51, 3) := by decide +kernel
theorem dX1_chancesOf_12 : decode cX1_chancesOf 12 = .ok (.iload_n 1, 1) := by decide +kernel
theorem dX1_chancesOf_13 : decode cX1_chancesOf 13 = .ok (.iload_n 3, 1) := by decide +kernel
theorem dX1_chancesOf_14 : decode cX1_chancesOf 14 = .ok (.ishr, 1) := by decide +kernel
theorem dX1_chancesOf_15 : decode cX1_chancesOf 15 = .ok (.iconst 1, 1) := by decide +kernel
theorem dX1_chancesOf_16 : decode cX1_chancesOf 16 = .ok (.iand, 1) := by decide +kernel
theorem dX1_chancesOf_17 : decode cX1_chancesOf 17 = .ok (.iconst 1, 1) := by decide +kernel
theorem dX1_chancesOf_18 : decode cX1_chancesOf 18 = .ok (.if_icmp .ne 7, 3) := by decide +kernel
theorem dX1_chancesOf_21 : decode cX1_chancesOf 21 = .ok (.iconst 1, 1) := by decide +kernel
theorem dX1_chancesOf_22 : decode cX1_chancesOf 22 = .ok (.goto 4, 3) := by decide +kernel
theorem dX1_chancesOf_25 : decode cX1_chancesOf 25 = .ok (.iconst 0, 1) := by decide +kernel
theorem dX1_chancesOf_26 : decode cX1_chancesOf 26 = .ok (.istore 4, 2) := by decide +kernel
theorem dX1_chancesOf_28 : decode cX1_chancesOf 28 = .ok (.iload_n 2, 1) := by decide +kernel
theorem dX1_chancesOf_29 : decode cX1_chancesOf 29 = .ok (.iload 4, 2) := by decide +kernel
theorem dX1_chancesOf_31 : decode cX1_chancesOf 31 = .ok (.ifCond .eq 12, 3) := by decide +kernel
theorem dX1_chancesOf_34 : decode cX1_chancesOf 34 = .ok (.aload_n 0, 1) := by decide +kernel
theorem dX1_chancesOf_35 : decode cX1_chancesOf 35 = .ok (.getfield 15, 3) := by decide +kernel
theorem dX1_chancesOf_38 : decode cX1_chancesOf 38 = .ok (.iload_n 3, 1) := by decide +kernel
theorem dX1_chancesOf_39 : decode cX1_chancesOf 39 = .ok (.iaload, 1) := by decide +kernel
theorem dX1_chancesOf_40 : decode cX1_chancesOf 40 = .ok (.goto 12, 3) := by decide +kernel
theorem dX1_chancesOf_43 : decode cX1_chancesOf 43 = .ok (.bipush 16, 2) := by decide +kernel
theorem dX1_chancesOf_45 : decode cX1_chancesOf 45 = .ok (.aload_n 0, 1) := by decide +kernel
theorem dX1_chancesOf_46 : decode cX1_chancesOf 46 = .ok (.getfield 15, 3) := by decide +kernel
theorem dX1_chancesOf_49 : decode cX1_chancesOf 49 = .ok (.iload_n 3, 1) := by decide +kernel
theorem dX1_chancesOf_50 : decode cX1_chancesOf 50 = .ok (.iaload, 1) := by decide +kernel
theorem dX1_chancesOf_51 : decode cX1_chancesOf 51 = .ok (.isub, 1) := by decide +kernel
theorem dX1_chancesOf_52 : decode cX1_chancesOf 52 = .ok (.imul, 1) := by decide +kernel
theorem dX1_chancesOf_53 : decode cX1_chancesOf 53 = .ok (.istore_n 2, 1) := by decide +kernel
theorem dX1_chancesOf_54 : decode cX1_chancesOf 54 = .ok (.iinc 3 1, 3) := by decide +kernel
theorem dX1_chancesOf_57 : decode cX1_chancesOf 57 = .ok (.goto (-53), 3) := by decide +kernel
theorem dX1_chancesOf_60 : decode cX1_chancesOf 60 = .ok (.iload_n 2, 1) := by decide +kernel
theorem dX1_chancesOf_61 : decode cX1_chancesOf 61 = .ok (.ireturn, 1) := by decide +kernel
theorem dX2_init_0 : decode cX2_init 0 = .ok (.aload_n 0, 1) := by decide +kernel
theorem dX2_init_1 : decode cX2_init 1 = .ok (.invokespecial 1, 3) := by decide +kernel
theorem dX2_init_4 : decode cX2_init 4 = .ok (.aload_n 0, 1) := by decide +kernel
theorem dX2_init_5 : decode cX2_init 5 = .ok (.iload_n 1, 1) := by decide +kernel
theorem dX2_init_6 : decode cX2_init 6 = .ok (.newarray .int, 2) := by decide +kernel
theorem dX2_init_8 : decode cX2_init 8 = .ok (.putfield 7, 3) := by decide +kernel
theorem dX2_init_11 : decode cX2_init 11 = .ok (.aload_n 0, 1) := by decide +kernel
theorem dX2_init_12 : decode cX2_init 12 = .ok (.iload_n 1, 1) := by decide +kernel
theorem dX2_init_13 : decode cX2_init 13 = .ok (.newarray .int, 2) := by decide +kernel
theorem dX2_init_15 : decode cX2_init 15 = .ok (.putfield 13, 3) := by decide +kernel
theorem dX2_init_18 : decode cX2_init 18 = .ok (.return_, 1) := by decide +kernel
theorem dX2_isFull_0 : decode cX2_isFull 0 = .ok (.aload_n 0, 1) := by decide +kernel
theorem dX2_isFull_1 : decode cX2_isFull 1 = .ok (.getfield 16, 3) := by decide +kernel
theorem dX2_isFull_4 : decode cX2_isFull 4 = .ok (.aload_n 0, 1) := by decide +kernel
theorem dX2_isFull_5 : decode cX2_isFull 5 = .ok (.getfield 7, 3) := by decide +kernel
theorem dX2_isFull_8 : decode cX2_isFull 8 = .ok (.arraylength, 1) := by decide +kernel
theorem dX2_isFull_9 : decode cX2_isFull 9 = .ok (.if_icmp .lt 7, 3) := by decide +kernel
theorem dX2_isFull_12 : decode cX2_isFull 12 = .ok (.iconst 1, 1) := by decide +kernel
theorem dX2_isFull_13 : decode cX2_isFull 13 = .ok (.goto 4, 3) := by decide +kernel
theorem dX2_isFull_16 : decode cX2_isFull 16 = .ok (.iconst 0, 1) := by decide +kernel
theorem dX2_isFull_17 : decode cX2_isFull 17 = .ok (.ireturn, 1) := by decide +kernel
theorem dX2_append_0 : decode cX2_append 0 = .ok (.aload_n 0, 1) := by decide +kernel
theorem dX2_append_1 : decode cX2_append 1 = .ok (.invokevirtual 20, 3) := by decide +kernel
theorem dX2_append_4 : decode cX2_append 4 = .ok (.ifCond .ne 33, 3) := by decide +kernel
theorem dX2_append_7 : decode cX2_append 7 = .ok (.aload_n 0, 1) := by decide +kernel
theorem dX2_append_8 : decode cX2_append 8 = .ok (.getfield 7, 3) := by decide +kernel
theorem dX2_append_11 : decode cX2_append 11 = .ok (.aload_n 0, 1) := by decide +kernel
theorem dX2_append_12 : decode cX2_append 12 = .ok (.getfield 16, 3) := by decide +kernel
theorem dX2_append_15 : decode cX2_append 15 = .ok (.iload_n 1, 1) := by decide +kernel
theorem dX2_append_16 : decode cX2_append 16 = .ok (.iastore, 1) := by decide +kernel
theorem dX2_append_17 : decode cX2_append 17 = .ok (.aload_n 0, 1) := by decide +kernel
theorem dX2_append_18 : decode cX2_append 18 = .ok (.getfield 13, 3) := by decide +kernel
theorem dX2_append_21 : decode cX2_append 21 = .ok (.aload_n 0, 1) := by decide +kernel
theorem dX2_append_22 : decode cX2_append 22 = .ok (.getfield 16, 3) := by decide +kernel
theorem dX2_append_25 : decode cX2_append 25 = .ok (.iload_n 2, 1) := by decide +kernel
theorem dX2_append_26 : decode cX2_append 26 = .ok (.iastore, 1) := by decide +kernel
theorem dX2_append_27 : decode cX2_append 27 = .ok (.aload_n 0, 1) := by decide +kernel
theorem dX2_append_28 : decode cX2_append 28 = .ok (.dup, 1) := by decide +kernel
theorem dX2_append_29 : decode cX2_append 29 = .ok (.getfield 16, 3) := by decide +kernel
theorem dX2_append_32 : decode cX2_append 32 = .ok (.iconst 1, 1) := by decide +kernel
theorem dX2_append_33 : decode cX2_append 33 = .ok (.iadd, 1) := by decide +kernel
theorem dX2_append_34 : decode cX2_append 34 = .ok (.putfield 16, 3) := by decide +kernel
theorem dX2_append_37 : decode cX2_append 37 = .ok (.aload_n 0, 1) := by decide +kernel
theorem dX2_append_38 : decode cX2_append 38 = .ok (.getfield 16, 3) := by decide +kernel
theorem dX2_append_41 : decode cX2_append 41 = .ok (.ireturn, 1) := by decide +kernel
theorem dX3_init_0 : decode cX3_init 0 = .ok (.aload_n 0, 1) := by decide +kernel
theorem dX3_init_1 : decode cX3_init 1 = .ok (.invokespecial 3, 3) := by decide +kernel
theorem dX3_init_4 : decode cX3_init 4 = .ok (.aload_n 0, 1) := by decide +kernel
theorem dX3_init_5 : decode cX3_init 5 = .ok (.bipush 8, 2) := by decide +kernel
theorem dX3_init_7 : decode cX3_init 7 = .ok (.newarray .int, 2) := by decide +kernel
theorem dX3_init_9 : decode cX3_init 9 = .ok (.putfield 9, 3) := by decide +kernel
theorem dX3_init_12 : decode cX3_init 12 = .ok (.aload_n 0, 1) := by decide +kernel
theorem dX3_init_13 : decode cX3_init 13 = .ok (.bipush 6, 2) := by decide +kernel
theorem dX3_init_15 : decode cX3_init 15 = .ok (.newarray .int, 2) := by decide +kernel
theorem dX3_init_17 : decode cX3_init 17 = .ok (.putfield 15, 3) := by decide +kernel
theorem dX3_init_20 : decode cX3_init 20 = .ok (.aload_n 0, 1) := by decide +kernel
theorem dX3_init_21 : decode cX3_init 21 = .ok (.aload_n 1, 1) := by decide +kernel
theorem dX3_init_22 : decode cX3_init 22 = .ok (.putfield 18, 3) := by decide +kernel
theorem dX3_init_25 : decode cX3_init 25 = .ok (.return_, 1) := by decide +kernel
theorem dX3_followTold_0 : decode cX3_followTold 0 = .ok (.aload_n 0, 1) := by decide +kernel
theorem dX3_followTold_1 : decode cX3_followTold 1 = .ok (.invokevirtual 22, 3) := by decide +kernel
theorem dX3_followTold_4 : decode cX3_followTold 4 = .ok (.iconst 0, 1) := by decide +kernel
theorem dX3_followTold_5 : decode cX3_followTold 5 = .ok (.istore_n 3, 1) := by decide +kernel
theorem dX3_followTold_6 : decode cX3_followTold 6 = .ok (.iload_n 3, 1) := by decide +kernel
theorem dX3_followTold_7 : decode cX3_followTold 7 = .ok (.iload_n 2, 1) := by decide +kernel
theorem dX3_followTold_8 : decode cX3_followTold 8 = .ok (.if_icmp .gt 53, 3) := by decide +kernel
theorem dX3_followTold_11 : decode cX3_followTold 11 = .ok (.iconst 0, 1) := by decide +kernel
theorem dX3_followTold_12 : decode cX3_followTold 12 = .ok (.istore 4, 2) := by decide +kernel
theorem dX3_followTold_14 : decode cX3_followTold 14 = .ok (.iload 4, 2) := by decide +kernel
theorem dX3_followTold_16 : decode cX3_followTold 16 = .ok (.aload_n 1, 1) := by decide +kernel
theorem dX3_followTold_17 : decode cX3_followTold 17 = .ok (.getfield 25, 3) := by decide +kernel
theorem dX3_followTold_20 : decode cX3_followTold 20 = .ok (.if_icmp .ge 35, 3) := by decide +kernel
theorem dX3_followTold_23 : decode cX3_followTold 23 = .ok (.aload_n 1, 1) := by decide +kernel
theorem dX3_followTold_24 : decode cX3_followTold 24 = .ok (.getfield 31, 3) := by decide +kernel
theorem dX3_followTold_27 : decode cX3_followTold 27 = .ok (.iload 4, 2) := by decide +kernel
theorem dX3_followTold_29 : decode cX3_followTold 29 = .ok (.iaload, 1) := by decide +kernel
theorem dX3_followTold_30 : decode cX3_followTold 30 = .ok (.iload_n 3, 1) := by decide +kernel
theorem dX3_followTold_31 : decode cX3_followTold 31 = .ok (.if_icmp .ne 18, 3) := by decide +kernel
theorem dX3_followTold_34 : decode cX3_followTold 34 = .ok (.aload_n 0, 1) := by decide +kernel
theorem dX3_followTold_35 : decode cX3_followTold 35 = .ok (.aload_n 1, 1) := by decide +kernel
theorem dX3_followTold_36 : decode cX3_followTold 36 = .ok (.getfield 34, 3) := by decide +kernel
theorem dX3_followTold_39 : decode cX3_followTold 39 = .ok (.iload 4, 2) := by decide +kernel
theorem dX3_followTold_41 : decode cX3_followTold 41 = .ok (.iaload, 1) := by decide +kernel
theorem dX3_followTold_42 : decode cX3_followTold 42 = .ok (.iload_n 3, 1) := by decide +kernel
theorem dX3_followTold_43 : decode cX3_followTold 43 = .ok (.sipush 255, 3) := by decide +kernel
theorem dX3_followTold_46 : decode cX3_followTold 46 = .ok (.invokevirtual 37, 3) := by decide +kernel
theorem dX3_followTold_49 : decode cX3_followTold 49 = .ok (.iinc 4 1, 3) := by decide +kernel
theorem dX3_followTold_52 : decode cX3_followTold 52 = .ok (.goto (-38), 3) := by decide +kernel
theorem dX3_followTold_55 : decode cX3_followTold 55 = .ok (.iinc 3 1, 3) := by decide +kernel
theorem dX3_followTold_58 : decode cX3_followTold 58 = .ok (.goto (-52), 3) := by decide +kernel
theorem dX3_followTold_61 : decode cX3_followTold 61 = .ok (.return_, 1) := by decide +kernel
theorem dX3_followLots_0 : decode cX3_followLots 0 = .ok (.aload_n 0, 1) := by decide +kernel
theorem dX3_followLots_1 : decode cX3_followLots 1 = .ok (.invokevirtual 22, 3) := by decide +kernel
theorem dX3_followLots_4 : decode cX3_followLots 4 = .ok (.iload_n 1, 1) := by decide +kernel
theorem dX3_followLots_5 : decode cX3_followLots 5 = .ok (.istore_n 3, 1) := by decide +kernel
theorem dX3_followLots_6 : decode cX3_followLots 6 = .ok (.iconst 0, 1) := by decide +kernel
theorem dX3_followLots_7 : decode cX3_followLots 7 = .ok (.istore 4, 2) := by decide +kernel
theorem dX3_followLots_9 : decode cX3_followLots 9 = .ok (.iload 4, 2) := by decide +kernel
theorem dX3_followLots_11 : decode cX3_followLots 11 = .ok (.iload_n 2, 1) := by decide +kernel
theorem dX3_followLots_12 : decode cX3_followLots 12 = .ok (.if_icmp .ge 82, 3) := by decide +kernel
theorem dX3_followLots_15 : decode cX3_followLots 15 = .ok (.iconst 0, 1) := by decide +kernel
theorem dX3_followLots_16 : decode cX3_followLots 16 = .ok (.istore 5, 2) := by decide +kernel
theorem dX3_followLots_18 : decode cX3_followLots 18 = .ok (.iload 5, 2) := by decide +kernel
theorem dX3_followLots_20 : decode cX3_followLots 20 = .ok (.aload_n 0, 1) := by decide +kernel
theorem dX3_followLots_21 : decode cX3_followLots 21 = .ok (.getfield 18, 3) := by decide +kernel
theorem dX3_followLots_24 : decode cX3_followLots 24 = .ok (.getfield 41, 3) := by decide +kernel
theorem dX3_followLots_27 : decode cX3_followLots 27 = .ok (.if_icmp .ge 61, 3) := by decide +kernel
theorem dX3_followLots_30 : decode cX3_followLots 30 = .ok (.aload_n 0, 1) := by decide +kernel
theorem dX3_followLots_31 : decode cX3_followLots 31 = .ok (.iload 5, 2) := by decide +kernel
theorem dX3_followLots_33 : decode cX3_followLots 33 = .ok (.invokevirtual 46, 3) := by decide +kernel
theorem dX3_followLots_36 : decode cX3_followLots 36 = .ok (.ifCond .eq 6, 3) := by decide +kernel
theorem dX3_followLots_39 : decode cX3_followLots 39 = .ok (.goto 43, 3) := by decide +kernel
theorem dX3_followLots_42 : decode cX3_followLots 42 = .ok (.ldc 50, 2) := by decide +kernel
theorem dX3_followLots_44 : decode cX3_followLots 44 = .ok (.iload_n 3, 1) := by decide +kernel
theorem dX3_followLots_45 : decode cX3_followLots 45 = .ok (.imul, 1) := by decide +kernel
theorem dX3_followLots_46 : decode cX3_followLots 46 = .ok (.sipush 12345, 3) := by decide +kernel
theorem dX3_followLots_49 : decode cX3_followLots 49 = .ok (.iadd, 1) := by decide +kernel
theorem dX3_followLots_50 : decode cX3_followLots 50 = .ok (.istore_n 3, 1) := by decide +kernel
theorem dX3_followLots_51 : decode cX3_followLots 51 = .ok (.iload_n 3, 1) := by decide +kernel
theorem dX3_followLots_52 : decode cX3_followLots 52 = .ok (.bipush 16, 2) := by decide +kernel
theorem dX3_followLots_54 : decode cX3_followLots 54 = .ok (.iushr, 1) := by decide +kernel
theorem dX3_followLots_55 : decode cX3_followLots 55 = .ok (.bipush 16, 2) := by decide +kernel
theorem dX3_followLots_57 : decode cX3_followLots 57 = .ok (.irem, 1) := by decide +kernel
theorem dX3_followLots_58 : decode cX3_followLots 58 = .ok (.aload_n 0, 1) := by decide +kernel
theorem dX3_followLots_59 : decode cX3_followLots 59 = .ok (.getfield 18, 3) := by decide +kernel
theorem dX3_followLots_62 : decode cX3_followLots 62 = .ok (.getfield 51, 3) := by decide +kernel
theorem dX3_followLots_65 : decode cX3_followLots 65 = .ok (.iload 5, 2) := by decide +kernel
theorem dX3_followLots_67 : decode cX3_followLots 67 = .ok (.iaload, 1) := by decide +kernel
theorem dX3_followLots_68 : decode cX3_followLots 68 = .ok (.if_icmp .ge 14, 3) := by decide +kernel
theorem dX3_followLots_71 : decode cX3_followLots 71 = .ok (.aload_n 0, 1) := by decide +kernel
theorem dX3_followLots_72 : decode cX3_followLots 72 = .ok (.iload 5, 2) := by decide +kernel
theorem dX3_followLots_74 : decode cX3_followLots 74 = .ok (.iload 4, 2) := by decide +kernel
theorem dX3_followLots_76 : decode cX3_followLots 76 = .ok (.sipush 255, 3) := by decide +kernel
theorem dX3_followLots_79 : decode cX3_followLots 79 = .ok (.invokevirtual 37, 3) := by decide +kernel
theorem dX3_followLots_82 : decode cX3_followLots 82 = .ok (.iinc 5 1, 3) := by decide +kernel
theorem dX3_followLots_85 : decode cX3_followLots 85 = .ok (.goto (-67), 3) := by decide +kernel
theorem dX3_followLots_88 : decode cX3_followLots 88 = .ok (.iinc 4 1, 3) := by decide +kernel
theorem dX3_followLots_91 : decode cX3_followLots 91 = .ok (.goto (-82), 3) := by decide +kernel
theorem dX3_followLots_94 : decode cX3_followLots 94 = .ok (.return_, 1) := by decide +kernel
theorem dX3_loseTogether_0 : decode cX3_loseTogether 0 = .ok (.aload_n 0, 1) := by decide +kernel
theorem dX3_loseTogether_1 : decode cX3_loseTogether 1 = .ok (.invokevirtual 22, 3) := by decide +kernel
theorem dX3_loseTogether_4 : decode cX3_loseTogether 4 = .ok (.iconst 0, 1) := by decide +kernel
theorem dX3_loseTogether_5 : decode cX3_loseTogether 5 = .ok (.istore_n 2, 1) := by decide +kernel
theorem dX3_loseTogether_6 : decode cX3_loseTogether 6 = .ok (.iload_n 2, 1) := by decide +kernel
theorem dX3_loseTogether_7 : decode cX3_loseTogether 7 = .ok (.aload_n 0, 1) := by decide +kernel
theorem dX3_loseTogether_8 : decode cX3_loseTogether 8 = .ok (.getfield 18, 3) := by decide +kernel
theorem dX3_loseTogether_11 : decode cX3_loseTogether 11 = .ok (.getfield 41, 3) := by decide +kernel
theorem dX3_loseTogether_14 : decode cX3_loseTogether 14 = .ok (.if_icmp .ge 27, 3) := by decide +kernel
theorem dX3_loseTogether_17 : decode cX3_loseTogether 17 = .ok (.iload_n 1, 1) := by decide +kernel
theorem dX3_loseTogether_18 : decode cX3_loseTogether 18 = .ok (.iload_n 2, 1) := by decide +kernel
theorem dX3_loseTogether_19 : decode cX3_loseTogether 19 = .ok (.ishr, 1) := by decide +kernel
theorem dX3_loseTogether_20 : decode cX3_loseTogether 20 = .ok (.iconst 1, 1) := by decide +kernel
theorem dX3_loseTogether_21 : decode cX3_loseTogether 21 = .ok (.iand, 1) := by decide +kernel
theorem dX3_loseTogether_22 : decode cX3_loseTogether 22 = .ok (.iconst 1, 1) := by decide +kernel
theorem dX3_loseTogether_23 : decode cX3_loseTogether 23 = .ok (.if_icmp .ne 12, 3) := by decide +kernel
theorem dX3_loseTogether_26 : decode cX3_loseTogether 26 = .ok (.aload_n 0, 1) := by decide +kernel
theorem dX3_loseTogether_27 : decode cX3_loseTogether 27 = .ok (.iload_n 2, 1) := by decide +kernel
theorem dX3_loseTogether_28 : decode cX3_loseTogether 28 = .ok (.iconst 0, 1) := by decide +kernel
theorem dX3_loseTogether_29 : decode cX3_loseTogether 29 = .ok (.sipush 255, 3) := by decide +kernel
theorem dX3_loseTogether_32 : decode cX3_loseTogether 32 = .ok (.invokevirtual 37, 3) := by decide +kernel
theorem dX3_loseTogether_35 : decode cX3_loseTogether 35 = .ok (.iinc 2 1, 3) := by decide +kernel
theorem dX3_loseTogether_38 : decode cX3_loseTogether 38 = .ok (.goto (-32), 3) := by decide +kernel
theorem dX3_loseTogether_41 : decode cX3_loseTogether 41 = .ok (.return_, 1) := by decide +kernel
theorem dX3_loseAlone_0 : decode cX3_loseAlone 0 = .ok (.aload_n 0, 1) := by decide +kernel
theorem dX3_loseAlone_1 : decode cX3_loseAlone 1 = .ok (.invokevirtual 22, 3) := by decide +kernel
theorem dX3_loseAlone_4 : decode cX3_loseAlone 4 = .ok (.aload_n 0, 1) := by decide +kernel
theorem dX3_loseAlone_5 : decode cX3_loseAlone 5 = .ok (.iload_n 1, 1) := by decide +kernel
theorem dX3_loseAlone_6 : decode cX3_loseAlone 6 = .ok (.iconst 0, 1) := by decide +kernel
theorem dX3_loseAlone_7 : decode cX3_loseAlone 7 = .ok (.iload_n 2, 1) := by decide +kernel
theorem dX3_loseAlone_8 : decode cX3_loseAlone 8 = .ok (.invokevirtual 37, 3) := by decide +kernel
theorem dX3_loseAlone_11 : decode cX3_loseAlone 11 = .ok (.aload_n 0, 1) := by decide +kernel
theorem dX3_loseAlone_12 : decode cX3_loseAlone 12 = .ok (.getfield 18, 3) := by decide +kernel
theorem dX3_loseAlone_15 : decode cX3_loseAlone 15 = .ok (.iload_n 1, 1) := by decide +kernel
theorem dX3_loseAlone_16 : decode cX3_loseAlone 16 = .ok (.invokevirtual 54, 3) := by decide +kernel
theorem dX3_loseAlone_19 : decode cX3_loseAlone 19 = .ok (.ifCond .eq 12, 3) := by decide +kernel
theorem dX3_loseAlone_22 : decode cX3_loseAlone 22 = .ok (.aload_n 0, 1) := by decide +kernel
theorem dX3_loseAlone_23 : decode cX3_loseAlone 23 = .ok (.getfield 15, 3) := by decide +kernel
theorem dX3_loseAlone_26 : decode cX3_loseAlone 26 = .ok (.iload_n 1, 1) := by decide +kernel
theorem dX3_loseAlone_27 : decode cX3_loseAlone 27 = .ok (.iaload, 1) := by decide +kernel
theorem dX3_loseAlone_28 : decode cX3_loseAlone 28 = .ok (.goto 4, 3) := by decide +kernel
theorem dX3_loseAlone_31 : decode cX3_loseAlone 31 = .ok (.iconst 0, 1) := by decide +kernel
theorem dX3_loseAlone_32 : decode cX3_loseAlone 32 = .ok (.ireturn, 1) := by decide +kernel
theorem dX3_begin_0 : decode cX3_begin 0 = .ok (.aload_n 0, 1) := by decide +kernel
theorem dX3_begin_1 : decode cX3_begin 1 = .ok (.getfield 18, 3) := by decide +kernel
theorem dX3_begin_4 : decode cX3_begin 4 = .ok (.getfield 57, 3) := by decide +kernel
theorem dX3_begin_7 : decode cX3_begin 7 = .ok (.iconst 0, 1) := by decide +kernel
theorem dX3_begin_8 : decode cX3_begin 8 = .ok (.aload_n 0, 1) := by decide +kernel
theorem dX3_begin_9 : decode cX3_begin 9 = .ok (.getfield 9, 3) := by decide +kernel
theorem dX3_begin_12 : decode cX3_begin 12 = .ok (.iconst 0, 1) := by decide +kernel
theorem dX3_begin_13 : decode cX3_begin 13 = .ok (.bipush 8, 2) := by decide +kernel
theorem dX3_begin_15 : decode cX3_begin 15 = .ok (.invokestatic 60, 3) := by decide +kernel
theorem dX3_begin_18 : decode cX3_begin 18 = .ok (.aload_n 0, 1) := by decide +kernel
theorem dX3_begin_19 : decode cX3_begin 19 = .ok (.getfield 15, 3) := by decide +kernel
theorem dX3_begin_22 : decode cX3_begin 22 = .ok (.iconst 0, 1) := by decide +kernel
theorem dX3_begin_23 : decode cX3_begin 23 = .ok (.invokestatic 66, 3) := by decide +kernel
theorem dX3_begin_26 : decode cX3_begin 26 = .ok (.aload_n 0, 1) := by decide +kernel
theorem dX3_begin_27 : decode cX3_begin 27 = .ok (.iconst 0, 1) := by decide +kernel
theorem dX3_begin_28 : decode cX3_begin 28 = .ok (.putfield 72, 3) := by decide +kernel
theorem dX3_begin_31 : decode cX3_begin 31 = .ok (.aload_n 0, 1) := by decide +kernel
theorem dX3_begin_32 : decode cX3_begin 32 = .ok (.iconst 0, 1) := by decide +kernel
theorem dX3_begin_33 : decode cX3_begin 33 = .ok (.putfield 75, 3) := by decide +kernel
theorem dX3_begin_36 : decode cX3_begin 36 = .ok (.aload_n 0, 1) := by decide +kernel
theorem dX3_begin_37 : decode cX3_begin 37 = .ok (.iconst (-1), 1) := by decide +kernel
theorem dX3_begin_38 : decode cX3_begin 38 = .ok (.putfield 78, 3) := by decide +kernel
theorem dX3_begin_41 : decode cX3_begin 41 = .ok (.aload_n 0, 1) := by decide +kernel
theorem dX3_begin_42 : decode cX3_begin 42 = .ok (.iconst (-1), 1) := by decide +kernel
theorem dX3_begin_43 : decode cX3_begin 43 = .ok (.putfield 81, 3) := by decide +kernel
theorem dX3_begin_46 : decode cX3_begin 46 = .ok (.return_, 1) := by decide +kernel
theorem dX3_isLost_0 : decode cX3_isLost 0 = .ok (.aload_n 0, 1) := by decide +kernel
theorem dX3_isLost_1 : decode cX3_isLost 1 = .ok (.getfield 72, 3) := by decide +kernel
theorem dX3_isLost_4 : decode cX3_isLost 4 = .ok (.iload_n 1, 1) := by decide +kernel
theorem dX3_isLost_5 : decode cX3_isLost 5 = .ok (.ishr, 1) := by decide +kernel
theorem dX3_isLost_6 : decode cX3_isLost 6 = .ok (.iconst 1, 1) := by decide +kernel
theorem dX3_isLost_7 : decode cX3_isLost 7 = .ok (.iand, 1) := by decide +kernel
theorem dX3_isLost_8 : decode cX3_isLost 8 = .ok (.iconst 1, 1) := by decide +kernel
theorem dX3_isLost_9 : decode cX3_isLost 9 = .ok (.if_icmp .ne 7, 3) := by decide +kernel
theorem dX3_isLost_12 : decode cX3_isLost 12 = .ok (.iconst 1, 1) := by decide +kernel
theorem dX3_isLost_13 : decode cX3_isLost 13 = .ok (.goto 4, 3) := by decide +kernel
theorem dX3_isLost_16 : decode cX3_isLost 16 = .ok (.iconst 0, 1) := by decide +kernel
theorem dX3_isLost_17 : decode cX3_isLost 17 = .ok (.ireturn, 1) := by decide +kernel
theorem dX3_sink_0 : decode cX3_sink 0 = .ok (.aload_n 0, 1) := by decide +kernel
theorem dX3_sink_1 : decode cX3_sink 1 = .ok (.getfield 18, 3) := by decide +kernel
theorem dX3_sink_4 : decode cX3_sink 4 = .ok (.iload_n 1, 1) := by decide +kernel
theorem dX3_sink_5 : decode cX3_sink 5 = .ok (.invokevirtual 54, 3) := by decide +kernel
theorem dX3_sink_8 : decode cX3_sink 8 = .ok (.ifCond .eq 11, 3) := by decide +kernel
theorem dX3_sink_11 : decode cX3_sink 11 = .ok (.aload_n 0, 1) := by decide +kernel
theorem dX3_sink_12 : decode cX3_sink 12 = .ok (.iload_n 1, 1) := by decide +kernel
theorem dX3_sink_13 : decode cX3_sink 13 = .ok (.invokevirtual 46, 3) := by decide +kernel
theorem dX3_sink_16 : decode cX3_sink 16 = .ok (.ifCond .eq 4, 3) := by decide +kernel
theorem dX3_sink_19 : decode cX3_sink 19 = .ok (.return_, 1) := by decide +kernel
theorem dX3_sink_20 : decode cX3_sink 20 = .ok (.aload_n 0, 1) := by decide +kernel
theorem dX3_sink_21 : decode cX3_sink 21 = .ok (.dup, 1) := by decide +kernel
theorem dX3_sink_22 : decode cX3_sink 22 = .ok (.getfield 72, 3) := by decide +kernel
theorem dX3_sink_25 : decode cX3_sink 25 = .ok (.iconst 1, 1) := by decide +kernel
theorem dX3_sink_26 : decode cX3_sink 26 = .ok (.iload_n 1, 1) := by decide +kernel
theorem dX3_sink_27 : decode cX3_sink 27 = .ok (.ishl, 1) := by decide +kernel
theorem dX3_sink_28 : decode cX3_sink 28 = .ok (.ior, 1) := by decide +kernel
theorem dX3_sink_29 : decode cX3_sink 29 = .ok (.putfield 72, 3) := by decide +kernel
theorem dX3_sink_32 : decode cX3_sink 32 = .ok (.iconst 0, 1) := by decide +kernel
theorem dX3_sink_33 : decode cX3_sink 33 = .ok (.istore 4, 2) := by decide +kernel
theorem dX3_sink_35 : decode cX3_sink 35 = .ok (.iload 4, 2) := by decide +kernel
theorem dX3_sink_37 : decode cX3_sink 37 = .ok (.aload_n 0, 1) := by decide +kernel
theorem dX3_sink_38 : decode cX3_sink 38 = .ok (.getfield 18, 3) := by decide +kernel
theorem dX3_sink_41 : decode cX3_sink 41 = .ok (.getfield 84, 3) := by decide +kernel
theorem dX3_sink_44 : decode cX3_sink 44 = .ok (.if_icmp .ge 144, 3) := by decide +kernel
theorem dX3_sink_47 : decode cX3_sink 47 = .ok (.aload_n 0, 1) := by decide +kernel
theorem dX3_sink_48 : decode cX3_sink 48 = .ok (.getfield 18, 3) := by decide +kernel
theorem dX3_sink_51 : decode cX3_sink 51 = .ok (.getfield 87, 3) := by decide +kernel
theorem dX3_sink_54 : decode cX3_sink 54 = .ok (.iload 4, 2) := by decide +kernel
theorem dX3_sink_56 : decode cX3_sink 56 = .ok (.iaload, 1) := by decide +kernel
theorem dX3_sink_57 : decode cX3_sink 57 = .ok (.istore 5, 2) := by decide +kernel
theorem dX3_sink_59 : decode cX3_sink 59 = .ok (.aload_n 0, 1) := by decide +kernel
theorem dX3_sink_60 : decode cX3_sink 60 = .ok (.getfield 18, 3) := by decide +kernel
theorem dX3_sink_63 : decode cX3_sink 63 = .ok (.getfield 90, 3) := by decide +kernel
theorem dX3_sink_66 : decode cX3_sink 66 = .ok (.iload 4, 2) := by decide +kernel
theorem dX3_sink_68 : decode cX3_sink 68 = .ok (.iaload, 1) := by decide +kernel
theorem dX3_sink_69 : decode cX3_sink 69 = .ok (.iload_n 1, 1) := by decide +kernel
theorem dX3_sink_70 : decode cX3_sink 70 = .ok (.if_icmp .ne 112, 3) := by decide +kernel
theorem dX3_sink_73 : decode cX3_sink 73 = .ok (.iload 5, 2) := by decide +kernel
theorem dX3_sink_75 : decode cX3_sink 75 = .ok (.ifCond .ne 6, 3) := by decide +kernel
theorem dX3_sink_78 : decode cX3_sink 78 = .ok (.goto 104, 3) := by decide +kernel
theorem dX3_sink_81 : decode cX3_sink 81 = .ok (.aload_n 0, 1) := by decide +kernel
theorem dX3_sink_82 : decode cX3_sink 82 = .ok (.getfield 18, 3) := by decide +kernel
theorem dX3_sink_85 : decode cX3_sink 85 = .ok (.getfield 93, 3) := by decide +kernel
theorem dX3_sink_88 : decode cX3_sink 88 = .ok (.aload_n 0, 1) := by decide +kernel
theorem dX3_sink_89 : decode cX3_sink 89 = .ok (.getfield 18, 3) := by decide +kernel
theorem dX3_sink_92 : decode cX3_sink 92 = .ok (.getfield 96, 3) := by decide +kernel
theorem dX3_sink_95 : decode cX3_sink 95 = .ok (.iload 4, 2) := by decide +kernel
theorem dX3_sink_97 : decode cX3_sink 97 = .ok (.iaload, 1) := by decide +kernel
theorem dX3_sink_98 : decode cX3_sink 98 = .ok (.iaload, 1) := by decide +kernel
theorem dX3_sink_99 : decode cX3_sink 99 = .ok (.istore 6, 2) := by decide +kernel
theorem dX3_sink_101 : decode cX3_sink 101 = .ok (.iload 6, 2) := by decide +kernel
theorem dX3_sink_103 : decode cX3_sink 103 = .ok (.iconst (-1), 1) := by decide +kernel
theorem dX3_sink_104 : decode cX3_sink 104 = .ok (.if_icmp .eq 78, 3) := by decide +kernel
theorem dX3_sink_107 : decode cX3_sink 107 = .ok (.iload_n 3, 1) := by decide +kernel
theorem dX3_sink_108 : decode cX3_sink 108 = .ok (.iload 6, 2) := by decide +kernel
theorem dX3_sink_110 : decode cX3_sink 110 = .ok (.ishr, 1) := by decide +kernel
theorem dX3_sink_111 : decode cX3_sink 111 = .ok (.iconst 1, 1) := by decide +kernel
theorem dX3_sink_112 : decode cX3_sink 112 = .ok (.iand, 1) := by decide +kernel
theorem dX3_sink_113 : decode cX3_sink 113 = .ok (.ifCond .ne 6, 3) := by decide +kernel
theorem dX3_sink_116 : decode cX3_sink 116 = .ok (.goto 66, 3) := by decide +kernel
theorem dX3_sink_119 : decode cX3_sink 119 = .ok (.iload 5, 2) := by decide +kernel
theorem dX3_sink_121 : decode cX3_sink 121 = .ok (.aload_n 0, 1) := by decide +kernel
theorem dX3_sink_122 : decode cX3_sink 122 = .ok (.getfield 9, 3) := by decide +kernel
theorem dX3_sink_125 : decode cX3_sink 125 = .ok (.iload 6, 2) := by decide +kernel
theorem dX3_sink_127 : decode cX3_sink 127 = .ok (.iaload, 1) := by decide +kernel
theorem dX3_sink_128 : decode cX3_sink 128 = .ok (.invokestatic 99, 3) := by decide +kernel
theorem dX3_sink_131 : decode cX3_sink 131 = .ok (.istore 7, 2) := by decide +kernel
theorem dX3_sink_133 : decode cX3_sink 133 = .ok (.aload_n 0, 1) := by decide +kernel
theorem dX3_sink_134 : decode cX3_sink 134 = .ok (.getfield 9, 3) := by decide +kernel
theorem dX3_sink_137 : decode cX3_sink 137 = .ok (.iload 6, 2) := by decide +kernel
theorem dX3_sink_139 : decode cX3_sink 139 = .ok (.dup2, 1) := by decide +kernel
theorem dX3_sink_140 : decode cX3_sink 140 = .ok (.iaload, 1) := by decide +kernel
theorem dX3_sink_141 : decode cX3_sink 141 = .ok (.iload 7, 2) := by decide +kernel
theorem dX3_sink_143 : decode cX3_sink 143 = .ok (.isub, 1) := by decide +kernel
theorem dX3_sink_144 : decode cX3_sink 144 = .ok (.iastore, 1) := by decide +kernel
theorem dX3_sink_145 : decode cX3_sink 145 = .ok (.aload_n 0, 1) := by decide +kernel
theorem dX3_sink_146 : decode cX3_sink 146 = .ok (.getfield 15, 3) := by decide +kernel
theorem dX3_sink_149 : decode cX3_sink 149 = .ok (.iload_n 1, 1) := by decide +kernel
theorem dX3_sink_150 : decode cX3_sink 150 = .ok (.dup2, 1) := by decide +kernel
theorem dX3_sink_151 : decode cX3_sink 151 = .ok (.iaload, 1) := by decide +kernel
theorem dX3_sink_152 : decode cX3_sink 152 = .ok (.iload 7, 2) := by decide +kernel
theorem dX3_sink_154 : decode cX3_sink 154 = .ok (.iadd, 1) := by decide +kernel
theorem dX3_sink_155 : decode cX3_sink 155 = .ok (.iastore, 1) := by decide +kernel
theorem dX3_sink_156 : decode cX3_sink 156 = .ok (.iload 7, 2) := by decide +kernel
theorem dX3_sink_158 : decode cX3_sink 158 = .ok (.iload 5, 2) := by decide +kernel
theorem dX3_sink_160 : decode cX3_sink 160 = .ok (.if_icmp .ge 22, 3) := by decide +kernel
theorem dX3_sink_163 : decode cX3_sink 163 = .ok (.aload_n 0, 1) := by decide +kernel
theorem dX3_sink_164 : decode cX3_sink 164 = .ok (.getfield 18, 3) := by decide +kernel
theorem dX3_sink_167 : decode cX3_sink 167 = .ok (.iload 6, 2) := by decide +kernel
theorem dX3_sink_169 : decode cX3_sink 169 = .ok (.invokevirtual 105, 3) := by decide +kernel
theorem dX3_sink_172 : decode cX3_sink 172 = .ok (.ifCond .ne 10, 3) := by decide +kernel
theorem dX3_sink_175 : decode cX3_sink 175 = .ok (.aload_n 0, 1) := by decide +kernel
theorem dX3_sink_176 : decode cX3_sink 176 = .ok (.iload 6, 2) := by decide +kernel
theorem dX3_sink_178 : decode cX3_sink 178 = .ok (.iload_n 2, 1) := by decide +kernel
theorem dX3_sink_179 : decode cX3_sink 179 = .ok (.invokevirtual 108, 3) := by decide +kernel
theorem dX3_sink_182 : decode cX3_sink 182 = .ok (.iinc 4 1, 3) := by decide +kernel
theorem dX3_sink_185 : decode cX3_sink 185 = .ok (.goto (-150), 3) := by decide +kernel
theorem dX3_sink_188 : decode cX3_sink 188 = .ok (.return_, 1) := by decide +kernel
theorem dX3_breakName_0 : decode cX3_breakName 0 = .ok (.aload_n 0, 1) := by decide +kernel
theorem dX3_breakName_1 : decode cX3_breakName 1 = .ok (.getfield 75, 3) := by decide +kernel
theorem dX3_breakName_4 : decode cX3_breakName 4 = .ok (.ifCond .ne 13, 3) := by decide +kernel
theorem dX3_breakName_7 : decode cX3_breakName 7 = .ok (.aload_n 0, 1) := by decide +kernel
theorem dX3_breakName_8 : decode cX3_breakName 8 = .ok (.iload_n 2, 1) := by decide +kernel
theorem dX3_breakName_9 : decode cX3_breakName 9 = .ok (.putfield 78, 3) := by decide +kernel
theorem dX3_breakName_12 : decode cX3_breakName 12 = .ok (.aload_n 0, 1) := by decide +kernel
theorem dX3_breakName_13 : decode cX3_breakName 13 = .ok (.iload_n 1, 1) := by decide +kernel
theorem dX3_breakName_14 : decode cX3_breakName 14 = .ok (.putfield 81, 3) := by decide +kernel
theorem dX3_breakName_17 : decode cX3_breakName 17 = .ok (.aload_n 0, 1) := by decide +kernel
theorem dX3_breakName_18 : decode cX3_breakName 18 = .ok (.dup, 1) := by decide +kernel
theorem dX3_breakName_19 : decode cX3_breakName 19 = .ok (.getfield 75, 3) := by decide +kernel
theorem dX3_breakName_22 : decode cX3_breakName 22 = .ok (.iconst 1, 1) := by decide +kernel
theorem dX3_breakName_23 : decode cX3_breakName 23 = .ok (.iload_n 1, 1) := by decide +kernel
theorem dX3_breakName_24 : decode cX3_breakName 24 = .ok (.ishl, 1) := by decide +kernel
theorem dX3_breakName_25 : decode cX3_breakName 25 = .ok (.ior, 1) := by decide +kernel
theorem dX3_breakName_26 : decode cX3_breakName 26 = .ok (.putfield 75, 3) := by decide +kernel
theorem dX3_breakName_29 : decode cX3_breakName 29 = .ok (.return_, 1) := by decide +kernel
theorem dX4_init_0 : decode cX4_init 0 = .ok (.aload_n 0, 1) := by decide +kernel
theorem dX4_init_1 : decode cX4_init 1 = .ok (.invokespecial 3, 3) := by decide +kernel
theorem dX4_init_4 : decode cX4_init 4 = .ok (.aload_n 0, 1) := by decide +kernel
theorem dX4_init_5 : decode cX4_init 5 = .ok (.bipush 60, 2) := by decide +kernel
theorem dX4_init_7 : decode cX4_init 7 = .ok (.newarray .int, 2) := by decide +kernel
theorem dX4_init_9 : decode cX4_init 9 = .ok (.putfield 9, 3) := by decide +kernel
theorem dX4_init_12 : decode cX4_init 12 = .ok (.aload_n 0, 1) := by decide +kernel
theorem dX4_init_13 : decode cX4_init 13 = .ok (.iconst 1, 1) := by decide +kernel
theorem dX4_init_14 : decode cX4_init 14 = .ok (.putfield 15, 3) := by decide +kernel
theorem dX4_init_17 : decode cX4_init 17 = .ok (.return_, 1) := by decide +kernel
theorem dX4_renew_0 : decode cX4_renew 0 = .ok (.aload_n 0, 1) := by decide +kernel
theorem dX4_renew_1 : decode cX4_renew 1 = .ok (.getfield 9, 3) := by decide +kernel
theorem dX4_renew_4 : decode cX4_renew 4 = .ok (.iconst 0, 1) := by decide +kernel
theorem dX4_renew_5 : decode cX4_renew 5 = .ok (.invokestatic 19, 3) := by decide +kernel
theorem dX4_renew_8 : decode cX4_renew 8 = .ok (.aload_n 0, 1) := by decide +kernel
theorem dX4_renew_9 : decode cX4_renew 9 = .ok (.iconst 0, 1) := by decide +kernel
theorem dX4_renew_10 : decode cX4_renew 10 = .ok (.putfield 15, 3) := by decide +kernel
theorem dX4_renew_13 : decode cX4_renew 13 = .ok (.aload_n 0, 1) := by decide +kernel
theorem dX4_renew_14 : decode cX4_renew 14 = .ok (.iload_n 1, 1) := by decide +kernel
theorem dX4_renew_15 : decode cX4_renew 15 = .ok (.putfield 25, 3) := by decide +kernel
theorem dX4_renew_18 : decode cX4_renew 18 = .ok (.aload_n 0, 1) := by decide +kernel
theorem dX4_renew_19 : decode cX4_renew 19 = .ok (.iload_n 2, 1) := by decide +kernel
theorem dX4_renew_20 : decode cX4_renew 20 = .ok (.putfield 29, 3) := by decide +kernel
theorem dX4_renew_23 : decode cX4_renew 23 = .ok (.return_, 1) := by decide +kernel
theorem dX4_findingAt_0 : decode cX4_findingAt 0 = .ok (.aload_n 0, 1) := by decide +kernel
theorem dX4_findingAt_1 : decode cX4_findingAt 1 = .ok (.getfield 15, 3) := by decide +kernel
theorem dX4_findingAt_4 : decode cX4_findingAt 4 = .ok (.ifCond .eq 5, 3) := by decide +kernel
theorem dX4_findingAt_7 : decode cX4_findingAt 7 = .ok (.iconst 1, 1) := by decide +kernel
theorem dX4_findingAt_8 : decode cX4_findingAt 8 = .ok (.ireturn, 1) := by decide +kernel
theorem dX4_findingAt_9 : decode cX4_findingAt 9 = .ok (.aload_n 0, 1) := by decide +kernel
theorem dX4_findingAt_10 : decode cX4_findingAt 10 = .ok (.getfield 25, 3) := by decide +kernel
theorem dX4_findingAt_13 : decode cX4_findingAt 13 = .ok (.iload_n 1, 1) := by decide +kernel
theorem dX4_findingAt_14 : decode cX4_findingAt 14 = .ok (.if_icmp .eq 5, 3) := by decide +kernel
theorem dX4_findingAt_17 : decode cX4_findingAt 17 = .ok (.iconst 3, 1) := by decide +kernel
theorem dX4_findingAt_18 : decode cX4_findingAt 18 = .ok (.ireturn, 1) := by decide +kernel
theorem dX4_findingAt_19 : decode cX4_findingAt 19 = .ok (.iload_n 2, 1) := by decide +kernel
theorem dX4_findingAt_20 : decode cX4_findingAt 20 = .ok (.ifCond .lt 15, 3) := by decide +kernel
theorem dX4_findingAt_23 : decode cX4_findingAt 23 = .ok (.iload_n 2, 1) := by decide +kernel
theorem dX4_findingAt_24 : decode cX4_findingAt 24 = .ok (.aload_n 0, 1) := by decide +kernel
theorem dX4_findingAt_25 : decode cX4_findingAt 25 = .ok (.getfield 29, 3) := by decide +kernel
theorem dX4_findingAt_28 : decode cX4_findingAt 28 = .ok (.if_icmp .ge 7, 3) := by decide +kernel
theorem dX4_findingAt_31 : decode cX4_findingAt 31 = .ok (.iconst 0, 1) := by decide +kernel
theorem dX4_findingAt_32 : decode cX4_findingAt 32 = .ok (.goto 4, 3) := by decide +kernel
theorem dX4_findingAt_35 : decode cX4_findingAt 35 = .ok (.iconst 2, 1) := by decide +kernel
theorem dX4_findingAt_36 : decode cX4_findingAt 36 = .ok (.ireturn, 1) := by decide +kernel
theorem dX4_hasRange_0 : decode cX4_hasRange 0 = .ok (.iload_n 1, 1) := by decide +kernel
theorem dX4_hasRange_1 : decode cX4_hasRange 1 = .ok (.ifCond .lt 29, 3) := by decide +kernel
theorem dX4_hasRange_4 : decode cX4_hasRange 4 = .ok (.iload_n 2, 1) := by decide +kernel
theorem dX4_hasRange_5 : decode cX4_hasRange 5 = .ok (.ifCond .lt 25, 3) := by decide +kernel
theorem dX4_hasRange_8 : decode cX4_hasRange 8 = .ok (.iload_n 1, 1) := by decide +kernel
theorem dX4_hasRange_9 : decode cX4_hasRange 9 = .ok (.aload_n 0, 1) := by decide +kernel
theorem dX4_hasRange_10 : decode cX4_hasRange 10 = .ok (.getfield 29, 3) := by decide +kernel
theorem dX4_hasRange_13 : decode cX4_hasRange 13 = .ok (.if_icmp .gt 17, 3) := by decide +kernel
theorem dX4_hasRange_16 : decode cX4_hasRange 16 = .ok (.iload_n 2, 1) := by decide +kernel
theorem dX4_hasRange_17 : decode cX4_hasRange 17 = .ok (.aload_n 0, 1) := by decide +kernel
theorem dX4_hasRange_18 : decode cX4_hasRange 18 = .ok (.getfield 29, 3) := by decide +kernel
theorem dX4_hasRange_21 : decode cX4_hasRange 21 = .ok (.iload_n 1, 1) := by decide +kernel
theorem dX4_hasRange_22 : decode cX4_hasRange 22 = .ok (.isub, 1) := by decide +kernel
theorem dX4_hasRange_23 : decode cX4_hasRange 23 = .ok (.if_icmp .gt 7, 3) := by decide +kernel
theorem dX4_hasRange_26 : decode cX4_hasRange 26 = .ok (.iconst 1, 1) := by decide +kernel
theorem dX4_hasRange_27 : decode cX4_hasRange 27 = .ok (.goto 4, 3) := by decide +kernel
theorem dX4_hasRange_30 : decode cX4_hasRange 30 = .ok (.iconst 0, 1) := by decide +kernel
theorem dX4_hasRange_31 : decode cX4_hasRange 31 = .ok (.ireturn, 1) := by decide +kernel
theorem dX4_put_0 : decode cX4_put 0 = .ok (.iload_n 1, 1) := by decide +kernel
theorem dX4_put_1 : decode cX4_put 1 = .ok (.ifCond .lt 22, 3) := by decide +kernel
theorem dX4_put_4 : decode cX4_put 4 = .ok (.iload_n 1, 1) := by decide +kernel
theorem dX4_put_5 : decode cX4_put 5 = .ok (.aload_n 0, 1) := by decide +kernel
theorem dX4_put_6 : decode cX4_put 6 = .ok (.getfield 29, 3) := by decide +kernel
theorem dX4_put_9 : decode cX4_put 9 = .ok (.if_icmp .ge 14, 3) := by decide +kernel
theorem dX4_put_12 : decode cX4_put 12 = .ok (.aload_n 0, 1) := by decide +kernel
theorem dX4_put_13 : decode cX4_put 13 = .ok (.getfield 9, 3) := by decide +kernel
theorem dX4_put_16 : decode cX4_put 16 = .ok (.iload_n 1, 1) := by decide +kernel
theorem dX4_put_17 : decode cX4_put 17 = .ok (.aload_n 0, 1) := by decide +kernel
theorem dX4_put_18 : decode cX4_put 18 = .ok (.iload_n 2, 1) := by decide +kernel
theorem dX4_put_19 : decode cX4_put 19 = .ok (.invokevirtual 32, 3) := by decide +kernel
theorem dX4_put_22 : decode cX4_put 22 = .ok (.iastore, 1) := by decide +kernel
theorem dX4_put_23 : decode cX4_put 23 = .ok (.return_, 1) := by decide +kernel
theorem dX4_narrowed_0 : decode cX4_narrowed 0 = .ok (.aload_n 0, 1) := by decide +kernel
theorem dX4_narrowed_1 : decode cX4_narrowed 1 = .ok (.getfield 25, 3) := by decide +kernel
theorem dX4_narrowed_4 : decode cX4_narrowed 4 = .ok (.lookupswitch 34 #[(0, 28), (1, 31)], 28) := by decide +kernel
theorem dX4_narrowed_32 : decode cX4_narrowed 32 = .ok (.iload_n 1, 1) := by decide +kernel
theorem dX4_narrowed_33 : decode cX4_narrowed 33 = .ok (.i2b, 1) := by decide +kernel
theorem dX4_narrowed_34 : decode cX4_narrowed 34 = .ok (.ireturn, 1) := by decide +kernel
theorem dX4_narrowed_35 : decode cX4_narrowed 35 = .ok (.iload_n 1, 1) := by decide +kernel
theorem dX4_narrowed_36 : decode cX4_narrowed 36 = .ok (.i2s, 1) := by decide +kernel
theorem dX4_narrowed_37 : decode cX4_narrowed 37 = .ok (.ireturn, 1) := by decide +kernel
theorem dX4_narrowed_38 : decode cX4_narrowed 38 = .ok (.iload_n 1, 1) := by decide +kernel
theorem dX4_narrowed_39 : decode cX4_narrowed 39 = .ok (.ireturn, 1) := by decide +kernel
theorem dX5_init_0 : decode cX5_init 0 = .ok (.aload_n 0, 1) := by decide +kernel
theorem dX5_init_1 : decode cX5_init 1 = .ok (.invokespecial 3, 3) := by decide +kernel
theorem dX5_init_4 : decode cX5_init 4 = .ok (.aload_n 0, 1) := by decide +kernel
theorem dX5_init_5 : decode cX5_init 5 = .ok (.aload_n 1, 1) := by decide +kernel
theorem dX5_init_6 : decode cX5_init 6 = .ok (.putfield 9, 3) := by decide +kernel
theorem dX5_init_9 : decode cX5_init 9 = .ok (.aload_n 0, 1) := by decide +kernel
theorem dX5_init_10 : decode cX5_init 10 = .ok (.aload_n 1, 1) := by decide +kernel
theorem dX5_init_11 : decode cX5_init 11 = .ok (.invokevirtual 15, 3) := by decide +kernel
theorem dX5_init_14 : decode cX5_init 14 = .ok (.iconst 1, 1) := by decide +kernel
theorem dX5_init_15 : decode cX5_init 15 = .ok (.iadd, 1) := by decide +kernel
theorem dX5_init_16 : decode cX5_init 16 = .ok (.putfield 21, 3) := by decide +kernel
theorem dX5_init_19 : decode cX5_init 19 = .ok (.aload_n 0, 1) := by decide +kernel
theorem dX5_init_20 : decode cX5_init 20 = .ok (.iload_n 2, 1) := by decide +kernel
theorem dX5_init_21 : decode cX5_init 21 = .ok (.aload_n 0, 1) := by decide +kernel
theorem dX5_init_22 : decode cX5_init 22 = .ok (.getfield 21, 3) := by decide +kernel
theorem dX5_init_25 : decode cX5_init 25 = .ok (.imul, 1) := by decide +kernel
theorem dX5_init_26 : decode cX5_init 26 = .ok (.iconst 1, 1) := by decide +kernel
theorem dX5_init_27 : decode cX5_init 27 = .ok (.isub, 1) := by decide +kernel
theorem dX5_init_28 : decode cX5_init 28 = .ok (.newarray .int, 2) := by decide +kernel
theorem dX5_init_30 : decode cX5_init 30 = .ok (.putfield 25, 3) := by decide +kernel
theorem dX5_init_33 : decode cX5_init 33 = .ok (.return_, 1) := by decide +kernel
theorem dX5_isFull_0 : decode cX5_isFull 0 = .ok (.aload_n 0, 1) := by decide +kernel
theorem dX5_isFull_1 : decode cX5_isFull 1 = .ok (.getfield 29, 3) := by decide +kernel
theorem dX5_isFull_4 : decode cX5_isFull 4 = .ok (.aload_n 0, 1) := by decide +kernel
theorem dX5_isFull_5 : decode cX5_isFull 5 = .ok (.getfield 25, 3) := by decide +kernel
theorem dX5_isFull_8 : decode cX5_isFull 8 = .ok (.arraylength, 1) := by decide +kernel
theorem dX5_isFull_9 : decode cX5_isFull 9 = .ok (.if_icmp .lt 7, 3) := by decide +kernel
theorem dX5_isFull_12 : decode cX5_isFull 12 = .ok (.iconst 1, 1) := by decide +kernel
theorem dX5_isFull_13 : decode cX5_isFull 13 = .ok (.goto 4, 3) := by decide +kernel
theorem dX5_isFull_16 : decode cX5_isFull 16 = .ok (.iconst 0, 1) := by decide +kernel
theorem dX5_isFull_17 : decode cX5_isFull 17 = .ok (.ireturn, 1) := by decide +kernel
theorem dX5_append_0 : decode cX5_append 0 = .ok (.aload_n 0, 1) := by decide +kernel
theorem dX5_append_1 : decode cX5_append 1 = .ok (.invokevirtual 31, 3) := by decide +kernel
theorem dX5_append_4 : decode cX5_append 4 = .ok (.ifCond .ne 23, 3) := by decide +kernel
theorem dX5_append_7 : decode cX5_append 7 = .ok (.aload_n 0, 1) := by decide +kernel
theorem dX5_append_8 : decode cX5_append 8 = .ok (.getfield 25, 3) := by decide +kernel
theorem dX5_append_11 : decode cX5_append 11 = .ok (.aload_n 0, 1) := by decide +kernel
theorem dX5_append_12 : decode cX5_append 12 = .ok (.getfield 29, 3) := by decide +kernel
theorem dX5_append_15 : decode cX5_append 15 = .ok (.iload_n 1, 1) := by decide +kernel
theorem dX5_append_16 : decode cX5_append 16 = .ok (.iastore, 1) := by decide +kernel
theorem dX5_append_17 : decode cX5_append 17 = .ok (.aload_n 0, 1) := by decide +kernel
theorem dX5_append_18 : decode cX5_append 18 = .ok (.dup, 1) := by decide +kernel
theorem dX5_append_19 : decode cX5_append 19 = .ok (.getfield 29, 3) := by decide +kernel
theorem dX5_append_22 : decode cX5_append 22 = .ok (.iconst 1, 1) := by decide +kernel
theorem dX5_append_23 : decode cX5_append 23 = .ok (.iadd, 1) := by decide +kernel
theorem dX5_append_24 : decode cX5_append 24 = .ok (.putfield 29, 3) := by decide +kernel
theorem dX5_append_27 : decode cX5_append 27 = .ok (.return_, 1) := by decide +kernel
theorem dX5_byteAt_0 : decode cX5_byteAt 0 = .ok (.iload_n 1, 1) := by decide +kernel
theorem dX5_byteAt_1 : decode cX5_byteAt 1 = .ok (.ifCond .lt 20, 3) := by decide +kernel
theorem dX5_byteAt_4 : decode cX5_byteAt 4 = .ok (.iload_n 1, 1) := by decide +kernel
theorem dX5_byteAt_5 : decode cX5_byteAt 5 = .ok (.aload_n 0, 1) := by decide +kernel
theorem dX5_byteAt_6 : decode cX5_byteAt 6 = .ok (.getfield 29, 3) := by decide +kernel
theorem dX5_byteAt_9 : decode cX5_byteAt 9 = .ok (.if_icmp .ge 12, 3) := by decide +kernel
theorem dX5_byteAt_12 : decode cX5_byteAt 12 = .ok (.aload_n 0, 1) := by decide +kernel
theorem dX5_byteAt_13 : decode cX5_byteAt 13 = .ok (.getfield 25, 3) := by decide +kernel
theorem dX5_byteAt_16 : decode cX5_byteAt 16 = .ok (.iload_n 1, 1) := by decide +kernel
theorem dX5_byteAt_17 : decode cX5_byteAt 17 = .ok (.iaload, 1) := by decide +kernel
theorem dX5_byteAt_18 : decode cX5_byteAt 18 = .ok (.goto 4, 3) := by decide +kernel
theorem dX5_byteAt_21 : decode cX5_byteAt 21 = .ok (.iconst 0, 1) := by decide +kernel
theorem dX5_byteAt_22 : decode cX5_byteAt 22 = .ok (.ireturn, 1) := by decide +kernel
theorem dX5_figureAt_0 : decode cX5_figureAt 0 = .ok (.aload_n 0, 1) := by decide +kernel
theorem dX5_figureAt_1 : decode cX5_figureAt 1 = .ok (.iload_n 1, 1) := by decide +kernel
theorem dX5_figureAt_2 : decode cX5_figureAt 2 = .ok (.invokevirtual 35, 3) := by decide +kernel
theorem dX5_figureAt_5 : decode cX5_figureAt 5 = .ok (.bipush 48, 2) := by decide +kernel
theorem dX5_figureAt_7 : decode cX5_figureAt 7 = .ok (.isub, 1) := by decide +kernel
theorem dX5_figureAt_8 : decode cX5_figureAt 8 = .ok (.ireturn, 1) := by decide +kernel
theorem dX5_figuresAt_0 : decode cX5_figuresAt 0 = .ok (.bipush 10, 2) := by decide +kernel
theorem dX5_figuresAt_2 : decode cX5_figuresAt 2 = .ok (.aload_n 0, 1) := by decide +kernel
theorem dX5_figuresAt_3 : decode cX5_figuresAt 3 = .ok (.iload_n 1, 1) := by decide +kernel
theorem dX5_figuresAt_4 : decode cX5_figuresAt 4 = .ok (.invokevirtual 39, 3) := by decide +kernel
theorem dX5_figuresAt_7 : decode cX5_figuresAt 7 = .ok (.imul, 1) := by decide +kernel
theorem dX5_figuresAt_8 : decode cX5_figuresAt 8 = .ok (.aload_n 0, 1) := by decide +kernel
theorem dX5_figuresAt_9 : decode cX5_figuresAt 9 = .ok (.iload_n 1, 1) := by decide +kernel
theorem dX5_figuresAt_10 : decode cX5_figuresAt 10 = .ok (.iconst 1, 1) := by decide +kernel
theorem dX5_figuresAt_11 : decode cX5_figuresAt 11 = .ok (.iadd, 1) := by decide +kernel
theorem dX5_figuresAt_12 : decode cX5_figuresAt 12 = .ok (.invokevirtual 39, 3) := by decide +kernel
theorem dX5_figuresAt_15 : decode cX5_figuresAt 15 = .ok (.iadd, 1) := by decide +kernel
theorem dX5_figuresAt_16 : decode cX5_figuresAt 16 = .ok (.ireturn, 1) := by decide +kernel
theorem dX5_faultPlace_0 : decode cX5_faultPlace 0 = .ok (.iconst 0, 1) := by decide +kernel
theorem dX5_faultPlace_1 : decode cX5_faultPlace 1 = .ok (.istore_n 1, 1) := by decide +kernel
theorem dX5_faultPlace_2 : decode cX5_faultPlace 2 = .ok (.iload_n 1, 1) := by decide +kernel
theorem dX5_faultPlace_3 : decode cX5_faultPlace 3 = .ok (.aload_n 0, 1) := by decide +kernel
theorem dX5_faultPlace_4 : decode cX5_faultPlace 4 = .ok (.getfield 29, 3) := by decide +kernel
theorem dX5_faultPlace_7 : decode cX5_faultPlace 7 = .ok (.if_icmp .ge 19, 3) := by decide +kernel
theorem dX5_faultPlace_10 : decode cX5_faultPlace 10 = .ok (.aload_n 0, 1) := by decide +kernel
theorem dX5_faultPlace_11 : decode cX5_faultPlace 11 = .ok (.iload_n 1, 1) := by decide +kernel
theorem dX5_faultPlace_12 : decode cX5_faultPlace 12 = .ok (.invokevirtual 42, 3) := by decide +kernel
theorem dX5_faultPlace_15 : decode cX5_faultPlace 15 = .ok (.ifCond .ne 5, 3) := by decide +kernel
theorem dX5_faultPlace_18 : decode cX5_faultPlace 18 = .ok (.iload_n 1, 1) := by decide +kernel
theorem dX5_faultPlace_19 : decode cX5_faultPlace 19 = .ok (.ireturn, 1) := by decide +kernel
theorem dX5_faultPlace_20 : decode cX5_faultPlace 20 = .ok (.iinc 1 1, 3) := by decide +kernel
theorem dX5_faultPlace_23 : decode cX5_faultPlace 23 = .ok (.goto (-21), 3) := by decide +kernel
theorem dX5_faultPlace_26 : decode cX5_faultPlace 26 = .ok (.aload_n 0, 1) := by decide +kernel
theorem dX5_faultPlace_27 : decode cX5_faultPlace 27 = .ok (.getfield 29, 3) := by decide +kernel
theorem dX5_faultPlace_30 : decode cX5_faultPlace 30 = .ok (.ifCond .eq 17, 3) := by decide +kernel
theorem dX5_faultPlace_33 : decode cX5_faultPlace 33 = .ok (.aload_n 0, 1) := by decide +kernel
theorem dX5_faultPlace_34 : decode cX5_faultPlace 34 = .ok (.getfield 29, 3) := by decide +kernel
theorem dX5_faultPlace_37 : decode cX5_faultPlace 37 = .ok (.iconst 1, 1) := by decide +kernel
theorem dX5_faultPlace_38 : decode cX5_faultPlace 38 = .ok (.iadd, 1) := by decide +kernel
theorem dX5_faultPlace_39 : decode cX5_faultPlace 39 = .ok (.aload_n 0, 1) := by decide +kernel
theorem dX5_faultPlace_40 : decode cX5_faultPlace 40 = .ok (.getfield 21, 3) := by decide +kernel
theorem dX5_faultPlace_43 : decode cX5_faultPlace 43 = .ok (.irem, 1) := by decide +kernel
theorem dX5_faultPlace_44 : decode cX5_faultPlace 44 = .ok (.ifCond .ne 7, 3) := by decide +kernel
theorem dX5_faultPlace_47 : decode cX5_faultPlace 47 = .ok (.iconst (-1), 1) := by decide +kernel
theorem dX5_faultPlace_48 : decode cX5_faultPlace 48 = .ok (.goto 7, 3) := by decide +kernel
theorem dX5_faultPlace_51 : decode cX5_faultPlace 51 = .ok (.aload_n 0, 1) := by decide +kernel
theorem dX5_faultPlace_52 : decode cX5_faultPlace 52 = .ok (.getfield 29, 3) := by decide +kernel
theorem dX5_faultPlace_55 : decode cX5_faultPlace 55 = .ok (.ireturn, 1) := by decide +kernel
theorem dX5_items_0 : decode cX5_items 0 = .ok (.aload_n 0, 1) := by decide +kernel
theorem dX5_items_1 : decode cX5_items 1 = .ok (.invokevirtual 46, 3) := by decide +kernel
theorem dX5_items_4 : decode cX5_items 4 = .ok (.iconst (-1), 1) := by decide +kernel
theorem dX5_items_5 : decode cX5_items 5 = .ok (.if_icmp .ne 17, 3) := by decide +kernel
theorem dX5_items_8 : decode cX5_items 8 = .ok (.aload_n 0, 1) := by decide +kernel
theorem dX5_items_9 : decode cX5_items 9 = .ok (.getfield 29, 3) := by decide +kernel
theorem dX5_items_12 : decode cX5_items 12 = .ok (.iconst 1, 1) := by decide +kernel
theorem dX5_items_13 : decode cX5_items 13 = .ok (.iadd, 1) := by decide +kernel
theorem dX5_items_14 : decode cX5_items 14 = .ok (.aload_n 0, 1) := by decide +kernel
theorem dX5_items_15 : decode cX5_items 15 = .ok (.getfield 21, 3) := by decide +kernel
theorem dX5_items_18 : decode cX5_items 18 = .ok (.idiv, 1) := by decide +kernel
theorem dX5_items_19 : decode cX5_items 19 = .ok (.goto 4, 3) := by decide +kernel
theorem dX5_items_22 : decode cX5_items 22 = .ok (.iconst 0, 1) := by decide +kernel
theorem dX5_items_23 : decode cX5_items 23 = .ok (.ireturn, 1) := by decide +kernel
theorem dX5_goesOnAt_0 : decode cX5_goesOnAt 0 = .ok (.aload_n 0, 1) := by decide +kernel
theorem dX5_goesOnAt_1 : decode cX5_goesOnAt 1 = .ok (.iload_n 1, 1) := by decide +kernel
theorem dX5_goesOnAt_2 : decode cX5_goesOnAt 2 = .ok (.invokevirtual 35, 3) := by decide +kernel
theorem dX5_goesOnAt_5 : decode cX5_goesOnAt 5 = .ok (.istore_n 2, 1) := by decide +kernel
theorem dX5_goesOnAt_6 : decode cX5_goesOnAt 6 = .ok (.iload_n 1, 1) := by decide +kernel
theorem dX5_goesOnAt_7 : decode cX5_goesOnAt 7 = .ok (.aload_n 0, 1) := by decide +kernel
theorem dX5_goesOnAt_8 : decode cX5_goesOnAt 8 = .ok (.getfield 21, 3) := by decide +kernel
theorem dX5_goesOnAt_11 : decode cX5_goesOnAt 11 = .ok (.irem, 1) := by decide +kernel
theorem dX5_goesOnAt_12 : decode cX5_goesOnAt 12 = .ok (.istore_n 3, 1) := by decide +kernel
theorem dX5_goesOnAt_13 : decode cX5_goesOnAt 13 = .ok (.iload_n 3, 1) := by decide +kernel
theorem dX5_goesOnAt_14 : decode cX5_goesOnAt 14 = .ok (.aload_n 0, 1) := by decide +kernel
theorem dX5_goesOnAt_15 : decode cX5_goesOnAt 15 = .ok (.getfield 9, 3) := by decide +kernel
theorem dX5_goesOnAt_18 : decode cX5_goesOnAt 18 = .ok (.invokevirtual 15, 3) := by decide +kernel
theorem dX5_goesOnAt_21 : decode cX5_goesOnAt 21 = .ok (.if_icmp .lt 15, 3) := by decide +kernel
theorem dX5_goesOnAt_24 : decode cX5_goesOnAt 24 = .ok (.iload_n 2, 1) := by decide +kernel
theorem dX5_goesOnAt_25 : decode cX5_goesOnAt 25 = .ok (.bipush 59, 2) := by decide +kernel
theorem dX5_goesOnAt_27 : decode cX5_goesOnAt 27 = .ok (.if_icmp .ne 7, 3) := by decide +kernel
theorem dX5_goesOnAt_30 : decode cX5_goesOnAt 30 = .ok (.iconst 1, 1) := by decide +kernel
theorem dX5_goesOnAt_31 : decode cX5_goesOnAt 31 = .ok (.goto 4, 3) := by decide +kernel
theorem dX5_goesOnAt_34 : decode cX5_goesOnAt 34 = .ok (.iconst 0, 1) := by decide +kernel
theorem dX5_goesOnAt_35 : decode cX5_goesOnAt 35 = .ok (.ireturn, 1) := by decide +kernel
theorem dX5_goesOnAt_36 : decode cX5_goesOnAt 36 = .ok (.aload_n 0, 1) := by decide +kernel
theorem dX5_goesOnAt_37 : decode cX5_goesOnAt 37 = .ok (.getfield 9, 3) := by decide +kernel
theorem dX5_goesOnAt_40 : decode cX5_goesOnAt 40 = .ok (.iload_n 3, 1) := by decide +kernel
theorem dX5_goesOnAt_41 : decode cX5_goesOnAt 41 = .ok (.invokevirtual 49, 3) := by decide +kernel
theorem dX5_goesOnAt_44 : decode cX5_goesOnAt 44 = .ok (.lookupswitch 163 #[(46, 140), (49, 69), (53, 104), (57, 60), (97, 113), (108, 122)], 60) := by decide +kernel
theorem dX5_goesOnAt_104 : decode cX5_goesOnAt 104 = .ok (.iload_n 2, 1) := by decide +kernel
theorem dX5_goesOnAt_105 : decode cX5_goesOnAt 105 = .ok (.bipush 48, 2) := by decide +kernel
theorem dX5_goesOnAt_107 : decode cX5_goesOnAt 107 = .ok (.bipush 57, 2) := by decide +kernel
theorem dX5_goesOnAt_109 : decode cX5_goesOnAt 109 = .ok (.invokestatic 53, 3) := by decide +kernel
theorem dX5_goesOnAt_112 : decode cX5_goesOnAt 112 = .ok (.ireturn, 1) := by decide +kernel
theorem dX5_goesOnAt_113 : decode cX5_goesOnAt 113 = .ok (.iload_n 2, 1) := by decide +kernel
theorem dX5_goesOnAt_114 : decode cX5_goesOnAt 114 = .ok (.bipush 48, 2) := by decide +kernel
theorem dX5_goesOnAt_116 : decode cX5_goesOnAt 116 = .ok (.bipush 57, 2) := by decide +kernel
theorem dX5_goesOnAt_118 : decode cX5_goesOnAt 118 = .ok (.invokestatic 53, 3) := by decide +kernel
theorem dX5_goesOnAt_121 : decode cX5_goesOnAt 121 = .ok (.ifCond .eq 25, 3) := by decide +kernel
theorem dX5_goesOnAt_124 : decode cX5_goesOnAt 124 = .ok (.iload_n 2, 1) := by decide +kernel
theorem dX5_goesOnAt_125 : decode cX5_goesOnAt 125 = .ok (.bipush 48, 2) := by decide +kernel
theorem dX5_goesOnAt_127 : decode cX5_goesOnAt 127 = .ok (.if_icmp .ne 15, 3) := by decide +kernel
theorem dX5_goesOnAt_130 : decode cX5_goesOnAt 130 = .ok (.aload_n 0, 1) := by decide +kernel
theorem dX5_goesOnAt_131 : decode cX5_goesOnAt 131 = .ok (.iload_n 1, 1) := by decide +kernel
theorem dX5_goesOnAt_132 : decode cX5_goesOnAt 132 = .ok (.iconst 1, 1) := by decide +kernel
theorem dX5_goesOnAt_133 : decode cX5_goesOnAt 133 = .ok (.isub, 1) := by decide +kernel
theorem dX5_goesOnAt_134 : decode cX5_goesOnAt 134 = .ok (.invokevirtual 35, 3) := by decide +kernel
theorem dX5_goesOnAt_137 : decode cX5_goesOnAt 137 = .ok (.bipush 48, 2) := by decide +kernel
theorem dX5_goesOnAt_139 : decode cX5_goesOnAt 139 = .ok (.if_icmp .eq 7, 3) := by decide +kernel
theorem dX5_goesOnAt_142 : decode cX5_goesOnAt 142 = .ok (.iconst 1, 1) := by decide +kernel
theorem dX5_goesOnAt_143 : decode cX5_goesOnAt 143 = .ok (.goto 4, 3) := by decide +kernel
theorem dX5_goesOnAt_146 : decode cX5_goesOnAt 146 = .ok (.iconst 0, 1) := by decide +kernel
theorem dX5_goesOnAt_147 : decode cX5_goesOnAt 147 = .ok (.ireturn, 1) := by decide +kernel
theorem dX5_goesOnAt_148 : decode cX5_goesOnAt 148 = .ok (.iload_n 2, 1) := by decide +kernel
theorem dX5_goesOnAt_149 : decode cX5_goesOnAt 149 = .ok (.bipush 48, 2) := by decide +kernel
theorem dX5_goesOnAt_151 : decode cX5_goesOnAt 151 = .ok (.bipush 53, 2) := by decide +kernel
theorem dX5_goesOnAt_153 : decode cX5_goesOnAt 153 = .ok (.invokestatic 53, 3) := by decide +kernel
theorem dX5_goesOnAt_156 : decode cX5_goesOnAt 156 = .ok (.ireturn, 1) := by decide +kernel
theorem dX5_goesOnAt_157 : decode cX5_goesOnAt 157 = .ok (.iload_n 2, 1) := by decide +kernel
theorem dX5_goesOnAt_158 : decode cX5_goesOnAt 158 = .ok (.bipush 97, 2) := by decide +kernel
theorem dX5_goesOnAt_160 : decode cX5_goesOnAt 160 = .ok (.bipush 104, 2) := by decide +kernel
theorem dX5_goesOnAt_162 : decode cX5_goesOnAt 162 = .ok (.invokestatic 53, 3) := by decide +kernel
theorem dX5_goesOnAt_165 : decode cX5_goesOnAt 165 = .ok (.ireturn, 1) := by decide +kernel
theorem dX5_goesOnAt_166 : decode cX5_goesOnAt 166 = .ok (.iload_n 2, 1) := by decide +kernel
theorem dX5_goesOnAt_167 : decode cX5_goesOnAt 167 = .ok (.bipush 108, 2) := by decide +kernel
theorem dX5_goesOnAt_169 : decode cX5_goesOnAt 169 = .ok (.if_icmp .eq 9, 3) := by decide +kernel
theorem dX5_goesOnAt_172 : decode cX5_goesOnAt 172 = .ok (.iload_n 2, 1) := by decide +kernel
theorem dX5_goesOnAt_173 : decode cX5_goesOnAt 173 = .ok (.bipush 100, 2) := by decide +kernel
theorem dX5_goesOnAt_175 : decode cX5_goesOnAt 175 = .ok (.if_icmp .ne 7, 3) := by decide +kernel
theorem dX5_goesOnAt_178 : decode cX5_goesOnAt 178 = .ok (.iconst 1, 1) := by decide +kernel
theorem dX5_goesOnAt_179 : decode cX5_goesOnAt 179 = .ok (.goto 4, 3) := by decide +kernel
theorem dX5_goesOnAt_182 : decode cX5_goesOnAt 182 = .ok (.iconst 0, 1) := by decide +kernel
theorem dX5_goesOnAt_183 : decode cX5_goesOnAt 183 = .ok (.ireturn, 1) := by decide +kernel
theorem dX5_goesOnAt_184 : decode cX5_goesOnAt 184 = .ok (.iload_n 2, 1) := by decide +kernel
theorem dX5_goesOnAt_185 : decode cX5_goesOnAt 185 = .ok (.bipush 46, 2) := by decide +kernel
theorem dX5_goesOnAt_187 : decode cX5_goesOnAt 187 = .ok (.if_icmp .eq 14, 3) := by decide +kernel
theorem dX5_goesOnAt_190 : decode cX5_goesOnAt 190 = .ok (.iload_n 2, 1) := by decide +kernel
theorem dX5_goesOnAt_191 : decode cX5_goesOnAt 191 = .ok (.bipush 97, 2) := by decide +kernel
theorem dX5_goesOnAt_193 : decode cX5_goesOnAt 193 = .ok (.bipush 104, 2) := by decide +kernel
theorem dX5_goesOnAt_195 : decode cX5_goesOnAt 195 = .ok (.invokestatic 53, 3) := by decide +kernel
theorem dX5_goesOnAt_198 : decode cX5_goesOnAt 198 = .ok (.ifCond .eq 7, 3) := by decide +kernel
theorem dX5_goesOnAt_201 : decode cX5_goesOnAt 201 = .ok (.iconst 1, 1) := by decide +kernel
theorem dX5_goesOnAt_202 : decode cX5_goesOnAt 202 = .ok (.goto 4, 3) := by decide +kernel
theorem dX5_goesOnAt_205 : decode cX5_goesOnAt 205 = .ok (.iconst 0, 1) := by decide +kernel
theorem dX5_goesOnAt_206 : decode cX5_goesOnAt 206 = .ok (.ireturn, 1) := by decide +kernel
theorem dX5_goesOnAt_207 : decode cX5_goesOnAt 207 = .ok (.iconst 0, 1) := by decide +kernel
theorem dX5_goesOnAt_208 : decode cX5_goesOnAt 208 = .ok (.ireturn, 1) := by decide +kernel
theorem dX5_isBetween_0 : decode cX5_isBetween 0 = .ok (.iload_n 0, 1) := by decide +kernel
theorem dX5_isBetween_1 : decode cX5_isBetween 1 = .ok (.iload_n 1, 1) := by decide +kernel
theorem dX5_isBetween_2 : decode cX5_isBetween 2 = .ok (.if_icmp .lt 12, 3) := by decide +kernel
theorem dX5_isBetween_5 : decode cX5_isBetween 5 = .ok (.iload_n 0, 1) := by decide +kernel
theorem dX5_isBetween_6 : decode cX5_isBetween 6 = .ok (.iload_n 2, 1) := by decide +kernel
theorem dX5_isBetween_7 : decode cX5_isBetween 7 = .ok (.if_icmp .gt 7, 3) := by decide +kernel
theorem dX5_isBetween_10 : decode cX5_isBetween 10 = .ok (.iconst 1, 1) := by decide +kernel
theorem dX5_isBetween_11 : decode cX5_isBetween 11 = .ok (.goto 4, 3) := by decide +kernel
theorem dX5_isBetween_14 : decode cX5_isBetween 14 = .ok (.iconst 0, 1) := by decide +kernel
theorem dX5_isBetween_15 : decode cX5_isBetween 15 = .ok (.ireturn, 1) := by decide +kernel
theorem dX6_init_0 : decode cX6_init 0 = .ok (.aload_n 0, 1) := by decide +kernel
theorem dX6_init_1 : decode cX6_init 1 = .ok (.invokespecial 3, 3) := by decide +kernel
theorem dX6_init_4 : decode cX6_init 4 = .ok (.aload_n 0, 1) := by decide +kernel
theorem dX6_init_5 : decode cX6_init 5 = .ok (.new 9, 3) := by decide +kernel
theorem dX6_init_8 : decode cX6_init 8 = .ok (.dup, 1) := by decide +kernel
theorem dX6_init_9 : decode cX6_init 9 = .ok (.ldc 11, 2) := by decide +kernel
theorem dX6_init_11 : decode cX6_init 11 = .ok (.bipush 6, 2) := by decide +kernel
theorem dX6_init_13 : decode cX6_init 13 = .ok (.invokespecial 13, 3) := by decide +kernel
theorem dX6_init_16 : decode cX6_init 16 = .ok (.putfield 16, 3) := by decide +kernel
theorem dX6_init_19 : decode cX6_init 19 = .ok (.aload_n 0, 1) := by decide +kernel
theorem dX6_init_20 : decode cX6_init 20 = .ok (.new 9, 3) := by decide +kernel
theorem dX6_init_23 : decode cX6_init 23 = .ok (.dup, 1) := by decide +kernel
theorem dX6_init_24 : decode cX6_init 24 = .ok (.ldc 20, 2) := by decide +kernel
theorem dX6_init_26 : decode cX6_init 26 = .ok (.bipush 8, 2) := by decide +kernel
theorem dX6_init_28 : decode cX6_init 28 = .ok (.invokespecial 13, 3) := by decide +kernel
theorem dX6_init_31 : decode cX6_init 31 = .ok (.putfield 22, 3) := by decide +kernel
theorem dX6_init_34 : decode cX6_init 34 = .ok (.aload_n 0, 1) := by decide +kernel
theorem dX6_init_35 : decode cX6_init 35 = .ok (.new 9, 3) := by decide +kernel
theorem dX6_init_38 : decode cX6_init 38 = .ok (.dup, 1) := by decide +kernel
theorem dX6_init_39 : decode cX6_init 39 = .ok (.ldc 25, 2) := by decide +kernel
theorem dX6_init_41 : decode cX6_init 41 = .ok (.bipush 12, 2) := by decide +kernel
theorem dX6_init_43 : decode cX6_init 43 = .ok (.invokespecial 13, 3) := by decide +kernel
theorem dX6_init_46 : decode cX6_init 46 = .ok (.putfield 27, 3) := by decide +kernel
theorem dX6_init_49 : decode cX6_init 49 = .ok (.aload_n 0, 1) := by decide +kernel
theorem dX6_init_50 : decode cX6_init 50 = .ok (.new 30, 3) := by decide +kernel
theorem dX6_init_53 : decode cX6_init 53 = .ok (.dup, 1) := by decide +kernel
theorem dX6_init_54 : decode cX6_init 54 = .ok (.bipush 12, 2) := by decide +kernel
theorem dX6_init_56 : decode cX6_init 56 = .ok (.invokespecial 32, 3) := by decide +kernel
theorem dX6_init_59 : decode cX6_init 59 = .ok (.putfield 35, 3) := by decide +kernel
theorem dX6_init_62 : decode cX6_init 62 = .ok (.aload_n 0, 1) := by decide +kernel
theorem dX6_init_63 : decode cX6_init 63 = .ok (.iconst 4, 1) := by decide +kernel
theorem dX6_init_64 : decode cX6_init 64 = .ok (.anewarray 39, 3) := by decide +kernel
theorem dX6_init_67 : decode cX6_init 67 = .ok (.putfield 41, 3) := by decide +kernel
theorem dX6_init_70 : decode cX6_init 70 = .ok (.new 45, 3) := by decide +kernel
theorem dX6_init_73 : decode cX6_init 73 = .ok (.dup, 1) := by decide +kernel
theorem dX6_init_74 : decode cX6_init 74 = .ok (.invokespecial 47, 3) := by decide +kernel
theorem dX6_init_77 : decode cX6_init 77 = .ok (.astore_n 1, 1) := by decide +kernel
theorem dX6_init_78 : decode cX6_init 78 = .ok (.new 48, 3) := by decide +kernel
theorem dX6_init_81 : decode cX6_init 81 = .ok (.dup, 1) := by decide +kernel
theorem dX6_init_82 : decode cX6_init 82 = .ok (.aload_n 1, 1) := by decide +kernel
theorem dX6_init_83 : decode cX6_init 83 = .ok (.invokespecial 50, 3) := by decide +kernel
theorem dX6_init_86 : decode cX6_init 86 = .ok (.astore_n 2, 1) := by decide +kernel
end
section
theorem dX6_init_87 : decode cX6_init 87 = .ok (.new 30, 3) := by decide +kernel
theorem dX6_init_90 : decode cX6_init 90 = .ok (.dup, 1) := by decide +kernel
theorem dX6_init_91 : decode cX6_init 91 = .ok (.bipush 8, 2) := by decide +kernel
theorem dX6_init_93 : decode cX6_init 93 = .ok (.invokespecial 32, 3) := by decide +kernel
theorem dX6_init_96 : decode cX6_init 96 = .ok (.astore_n 3, 1) := by decide +kernel
theorem dX6_init_97 : decode cX6_init 97 = .ok (.aload_n 0, 1) := by decide +kernel
theorem dX6_init_98 : decode cX6_init 98 = .ok (.aload_n 1, 1) := by decide +kernel
theorem dX6_init_99 : decode cX6_init 99 = .ok (.putfield 53, 3) := by decide +kernel
theorem dX6_init_102 : decode cX6_init 102 = .ok (.aload_n 0, 1) := by decide +kernel
theorem dX6_init_103 : decode cX6_init 103 = .ok (.aload_n 2, 1) := by decide +kernel
theorem dX6_init_104 : decode cX6_init 104 = .ok (.putfield 57, 3) := by decide +kernel
theorem dX6_init_107 : decode cX6_init 107 = .ok (.aload_n 0, 1) := by decide +kernel
theorem dX6_init_108 : decode cX6_init 108 = .ok (.aload_n 3, 1) := by decide +kernel
theorem dX6_init_109 : decode cX6_init 109 = .ok (.putfield 61, 3) := by decide +kernel
theorem dX6_init_112 : decode cX6_init 112 = .ok (.aload_n 0, 1) := by decide +kernel
theorem dX6_init_113 : decode cX6_init 113 = .ok (.new 64, 3) := by decide +kernel
theorem dX6_init_116 : decode cX6_init 116 = .ok (.dup, 1) := by decide +kernel
theorem dX6_init_117 : decode cX6_init 117 = .ok (.aload_n 1, 1) := by decide +kernel
theorem dX6_init_118 : decode cX6_init 118 = .ok (.aload_n 2, 1) := by decide +kernel
theorem dX6_init_119 : decode cX6_init 119 = .ok (.aload_n 3, 1) := by decide +kernel
theorem dX6_init_120 : decode cX6_init 120 = .ok (.invokespecial 66, 3) := by decide +kernel
theorem dX6_init_123 : decode cX6_init 123 = .ok (.putfield 69, 3) := by decide +kernel
theorem dX6_init_126 : decode cX6_init 126 = .ok (.iconst 0, 1) := by decide +kernel
theorem dX6_init_127 : decode cX6_init 127 = .ok (.istore 4, 2) := by decide +kernel
theorem dX6_init_129 : decode cX6_init 129 = .ok (.iload 4, 2) := by decide +kernel
theorem dX6_init_131 : decode cX6_init 131 = .ok (.iconst 4, 1) := by decide +kernel
theorem dX6_init_132 : decode cX6_init 132 = .ok (.if_icmp .ge 23, 3) := by decide +kernel
theorem dX6_init_135 : decode cX6_init 135 = .ok (.aload_n 0, 1) := by decide +kernel
theorem dX6_init_136 : decode cX6_init 136 = .ok (.getfield 41, 3) := by decide +kernel
theorem dX6_init_139 : decode cX6_init 139 = .ok (.iload 4, 2) := by decide +kernel
theorem dX6_init_141 : decode cX6_init 141 = .ok (.new 39, 3) := by decide +kernel
theorem dX6_init_144 : decode cX6_init 144 = .ok (.dup, 1) := by decide +kernel
theorem dX6_init_145 : decode cX6_init 145 = .ok (.invokespecial 73, 3) := by decide +kernel
theorem dX6_init_148 : decode cX6_init 148 = .ok (.aastore, 1) := by decide +kernel
theorem dX6_init_149 : decode cX6_init 149 = .ok (.iinc 4 1, 3) := by decide +kernel
theorem dX6_init_152 : decode cX6_init 152 = .ok (.goto (-23), 3) := by decide +kernel
theorem dX6_init_155 : decode cX6_init 155 = .ok (.return_, 1) := by decide +kernel
theorem dX6_type_0 : decode cX6_type 0 = .ok (.aload_n 0, 1) := by decide +kernel
theorem dX6_type_1 : decode cX6_type 1 = .ok (.iload_n 1, 1) := by decide +kernel
theorem dX6_type_2 : decode cX6_type 2 = .ok (.invokevirtual 74, 3) := by decide +kernel
theorem dX6_type_5 : decode cX6_type 5 = .ok (.astore_n 3, 1) := by decide +kernel
theorem dX6_type_6 : decode cX6_type 6 = .ok (.aload_n 3, 1) := by decide +kernel
theorem dX6_type_7 : decode cX6_type 7 = .ok (.ifnull 13, 3) := by decide +kernel
theorem dX6_type_10 : decode cX6_type 10 = .ok (.iload_n 2, 1) := by decide +kernel
theorem dX6_type_11 : decode cX6_type 11 = .ok (.sipush 255, 3) := by decide +kernel
theorem dX6_type_14 : decode cX6_type 14 = .ok (.invokestatic 78, 3) := by decide +kernel
theorem dX6_type_17 : decode cX6_type 17 = .ok (.ifCond .ne 6, 3) := by decide +kernel
theorem dX6_type_20 : decode cX6_type 20 = .ok (.bipush (-2), 2) := by decide +kernel
theorem dX6_type_22 : decode cX6_type 22 = .ok (.ireturn, 1) := by decide +kernel
theorem dX6_type_23 : decode cX6_type 23 = .ok (.aload_n 3, 1) := by decide +kernel
theorem dX6_type_24 : decode cX6_type 24 = .ok (.invokevirtual 82, 3) := by decide +kernel
theorem dX6_type_27 : decode cX6_type 27 = .ok (.ifCond .eq 6, 3) := by decide +kernel
theorem dX6_type_30 : decode cX6_type 30 = .ok (.bipush (-4), 2) := by decide +kernel
theorem dX6_type_32 : decode cX6_type 32 = .ok (.ireturn, 1) := by decide +kernel
theorem dX6_type_33 : decode cX6_type 33 = .ok (.aload_n 3, 1) := by decide +kernel
theorem dX6_type_34 : decode cX6_type 34 = .ok (.iload_n 2, 1) := by decide +kernel
theorem dX6_type_35 : decode cX6_type 35 = .ok (.invokevirtual 86, 3) := by decide +kernel
theorem dX6_type_38 : decode cX6_type 38 = .ok (.aload_n 0, 1) := by decide +kernel
theorem dX6_type_39 : decode cX6_type 39 = .ok (.invokevirtual 89, 3) := by decide +kernel
theorem dX6_type_42 : decode cX6_type 42 = .ok (.aload_n 3, 1) := by decide +kernel
theorem dX6_type_43 : decode cX6_type 43 = .ok (.getfield 92, 3) := by decide +kernel
theorem dX6_type_46 : decode cX6_type 46 = .ok (.ireturn, 1) := by decide +kernel
theorem dX6_wipe_0 : decode cX6_wipe 0 = .ok (.aload_n 0, 1) := by decide +kernel
theorem dX6_wipe_1 : decode cX6_wipe 1 = .ok (.iload_n 1, 1) := by decide +kernel
theorem dX6_wipe_2 : decode cX6_wipe 2 = .ok (.invokevirtual 74, 3) := by decide +kernel
theorem dX6_wipe_5 : decode cX6_wipe 5 = .ok (.astore_n 2, 1) := by decide +kernel
theorem dX6_wipe_6 : decode cX6_wipe 6 = .ok (.aload_n 2, 1) := by decide +kernel
theorem dX6_wipe_7 : decode cX6_wipe 7 = .ok (.ifnonnull 6, 3) := by decide +kernel
theorem dX6_wipe_10 : decode cX6_wipe 10 = .ok (.bipush (-2), 2) := by decide +kernel
theorem dX6_wipe_12 : decode cX6_wipe 12 = .ok (.ireturn, 1) := by decide +kernel
theorem dX6_wipe_13 : decode cX6_wipe 13 = .ok (.aload_n 2, 1) := by decide +kernel
theorem dX6_wipe_14 : decode cX6_wipe 14 = .ok (.getfield 92, 3) := by decide +kernel
theorem dX6_wipe_17 : decode cX6_wipe 17 = .ok (.istore_n 3, 1) := by decide +kernel
theorem dX6_wipe_18 : decode cX6_wipe 18 = .ok (.aload_n 2, 1) := by decide +kernel
theorem dX6_wipe_19 : decode cX6_wipe 19 = .ok (.iconst 0, 1) := by decide +kernel
theorem dX6_wipe_20 : decode cX6_wipe 20 = .ok (.putfield 92, 3) := by decide +kernel
theorem dX6_wipe_23 : decode cX6_wipe 23 = .ok (.aload_n 0, 1) := by decide +kernel
theorem dX6_wipe_24 : decode cX6_wipe 24 = .ok (.invokevirtual 89, 3) := by decide +kernel
theorem dX6_wipe_27 : decode cX6_wipe 27 = .ok (.iload_n 3, 1) := by decide +kernel
theorem dX6_wipe_28 : decode cX6_wipe 28 = .ok (.ireturn, 1) := by decide +kernel
theorem dX6_undo_0 : decode cX6_undo 0 = .ok (.aload_n 0, 1) := by decide +kernel
theorem dX6_undo_1 : decode cX6_undo 1 = .ok (.iload_n 1, 1) := by decide +kernel
theorem dX6_undo_2 : decode cX6_undo 2 = .ok (.invokevirtual 74, 3) := by decide +kernel
theorem dX6_undo_5 : decode cX6_undo 5 = .ok (.astore_n 2, 1) := by decide +kernel
theorem dX6_undo_6 : decode cX6_undo 6 = .ok (.aload_n 2, 1) := by decide +kernel
theorem dX6_undo_7 : decode cX6_undo 7 = .ok (.ifnonnull 6, 3) := by decide +kernel
theorem dX6_undo_10 : decode cX6_undo 10 = .ok (.bipush (-2), 2) := by decide +kernel
theorem dX6_undo_12 : decode cX6_undo 12 = .ok (.ireturn, 1) := by decide +kernel
theorem dX6_undo_13 : decode cX6_undo 13 = .ok (.aload_n 2, 1) := by decide +kernel
theorem dX6_undo_14 : decode cX6_undo 14 = .ok (.getfield 92, 3) := by decide +kernel
theorem dX6_undo_17 : decode cX6_undo 17 = .ok (.ifCond .ne 6, 3) := by decide +kernel
theorem dX6_undo_20 : decode cX6_undo 20 = .ok (.bipush (-3), 2) := by decide +kernel
theorem dX6_undo_22 : decode cX6_undo 22 = .ok (.ireturn, 1) := by decide +kernel
theorem dX6_undo_23 : decode cX6_undo 23 = .ok (.aload_n 2, 1) := by decide +kernel
theorem dX6_undo_24 : decode cX6_undo 24 = .ok (.dup, 1) := by decide +kernel
theorem dX6_undo_25 : decode cX6_undo 25 = .ok (.getfield 92, 3) := by decide +kernel
theorem dX6_undo_28 : decode cX6_undo 28 = .ok (.iconst 1, 1) := by decide +kernel
theorem dX6_undo_29 : decode cX6_undo 29 = .ok (.isub, 1) := by decide +kernel
theorem dX6_undo_30 : decode cX6_undo 30 = .ok (.putfield 92, 3) := by decide +kernel
theorem dX6_undo_33 : decode cX6_undo 33 = .ok (.aload_n 0, 1) := by decide +kernel
theorem dX6_undo_34 : decode cX6_undo 34 = .ok (.invokevirtual 89, 3) := by decide +kernel
theorem dX6_undo_37 : decode cX6_undo 37 = .ok (.aload_n 2, 1) := by decide +kernel
theorem dX6_undo_38 : decode cX6_undo 38 = .ok (.getfield 92, 3) := by decide +kernel
theorem dX6_undo_41 : decode cX6_undo 41 = .ok (.ireturn, 1) := by decide +kernel
theorem dX6_fault_0 : decode cX6_fault 0 = .ok (.aload_n 0, 1) := by decide +kernel
theorem dX6_fault_1 : decode cX6_fault 1 = .ok (.iload_n 1, 1) := by decide +kernel
theorem dX6_fault_2 : decode cX6_fault 2 = .ok (.invokevirtual 74, 3) := by decide +kernel
theorem dX6_fault_5 : decode cX6_fault 5 = .ok (.astore_n 2, 1) := by decide +kernel
theorem dX6_fault_6 : decode cX6_fault 6 = .ok (.aload_n 2, 1) := by decide +kernel
theorem dX6_fault_7 : decode cX6_fault 7 = .ok (.ifnonnull 8, 3) := by decide +kernel
theorem dX6_fault_10 : decode cX6_fault 10 = .ok (.bipush (-2), 2) := by decide +kernel
theorem dX6_fault_12 : decode cX6_fault 12 = .ok (.goto 7, 3) := by decide +kernel
theorem dX6_fault_15 : decode cX6_fault 15 = .ok (.aload_n 2, 1) := by decide +kernel
theorem dX6_fault_16 : decode cX6_fault 16 = .ok (.invokevirtual 96, 3) := by decide +kernel
theorem dX6_fault_19 : decode cX6_fault 19 = .ok (.ireturn, 1) := by decide +kernel
theorem dX6_ship_0 : decode cX6_ship 0 = .ok (.aload_n 0, 1) := by decide +kernel
theorem dX6_ship_1 : decode cX6_ship 1 = .ok (.getfield 53, 3) := by decide +kernel
theorem dX6_ship_4 : decode cX6_ship 4 = .ok (.iload_n 1, 1) := by decide +kernel
theorem dX6_ship_5 : decode cX6_ship 5 = .ok (.invokevirtual 100, 3) := by decide +kernel
theorem dX6_ship_8 : decode cX6_ship 8 = .ok (.ifCond .eq 11, 3) := by decide +kernel
theorem dX6_ship_11 : decode cX6_ship 11 = .ok (.iload_n 2, 1) := by decide +kernel
theorem dX6_ship_12 : decode cX6_ship 12 = .ok (.iconst 1, 1) := by decide +kernel
theorem dX6_ship_13 : decode cX6_ship 13 = .ok (.invokestatic 78, 3) := by decide +kernel
theorem dX6_ship_16 : decode cX6_ship 16 = .ok (.ifCond .ne 6, 3) := by decide +kernel
theorem dX6_ship_19 : decode cX6_ship 19 = .ok (.bipush (-2), 2) := by decide +kernel
theorem dX6_ship_21 : decode cX6_ship 21 = .ok (.ireturn, 1) := by decide +kernel
theorem dX6_ship_22 : decode cX6_ship 22 = .ok (.iload_n 2, 1) := by decide +kernel
theorem dX6_ship_23 : decode cX6_ship 23 = .ok (.ifCond .ne 15, 3) := by decide +kernel
theorem dX6_ship_26 : decode cX6_ship 26 = .ok (.aload_n 0, 1) := by decide +kernel
theorem dX6_ship_27 : decode cX6_ship 27 = .ok (.getfield 53, 3) := by decide +kernel
theorem dX6_ship_30 : decode cX6_ship 30 = .ok (.getfield 104, 3) := by decide +kernel
theorem dX6_ship_33 : decode cX6_ship 33 = .ok (.iload_n 1, 1) := by decide +kernel
theorem dX6_ship_34 : decode cX6_ship 34 = .ok (.iaload, 1) := by decide +kernel
theorem dX6_ship_35 : decode cX6_ship 35 = .ok (.goto 12, 3) := by decide +kernel
theorem dX6_ship_38 : decode cX6_ship 38 = .ok (.aload_n 0, 1) := by decide +kernel
theorem dX6_ship_39 : decode cX6_ship 39 = .ok (.getfield 53, 3) := by decide +kernel
theorem dX6_ship_42 : decode cX6_ship 42 = .ok (.getfield 108, 3) := by decide +kernel
theorem dX6_ship_45 : decode cX6_ship 45 = .ok (.iload_n 1, 1) := by decide +kernel
theorem dX6_ship_46 : decode cX6_ship 46 = .ok (.iaload, 1) := by decide +kernel
theorem dX6_ship_47 : decode cX6_ship 47 = .ok (.ireturn, 1) := by decide +kernel
theorem dX6_name_0 : decode cX6_name 0 = .ok (.aload_n 0, 1) := by decide +kernel
theorem dX6_name_1 : decode cX6_name 1 = .ok (.getfield 53, 3) := by decide +kernel
theorem dX6_name_4 : decode cX6_name 4 = .ok (.iload_n 1, 1) := by decide +kernel
theorem dX6_name_5 : decode cX6_name 5 = .ok (.invokevirtual 111, 3) := by decide +kernel
theorem dX6_name_8 : decode cX6_name 8 = .ok (.ifCond .ne 6, 3) := by decide +kernel
theorem dX6_name_11 : decode cX6_name 11 = .ok (.bipush (-2), 2) := by decide +kernel
theorem dX6_name_13 : decode cX6_name 13 = .ok (.ireturn, 1) := by decide +kernel
theorem dX6_name_14 : decode cX6_name 14 = .ok (.iload_n 2, 1) := by decide +kernel
theorem dX6_name_15 : decode cX6_name 15 = .ok (.tableswitch 62 0 2 #[25, 35, 52], 25) := by decide +kernel
theorem dX6_name_40 : decode cX6_name 40 = .ok (.aload_n 0, 1) := by decide +kernel
theorem dX6_name_41 : decode cX6_name 41 = .ok (.getfield 53, 3) := by decide +kernel
theorem dX6_name_44 : decode cX6_name 44 = .ok (.getfield 114, 3) := by decide +kernel
theorem dX6_name_47 : decode cX6_name 47 = .ok (.iload_n 1, 1) := by decide +kernel
theorem dX6_name_48 : decode cX6_name 48 = .ok (.iaload, 1) := by decide +kernel
theorem dX6_name_49 : decode cX6_name 49 = .ok (.ireturn, 1) := by decide +kernel
theorem dX6_name_50 : decode cX6_name 50 = .ok (.aload_n 0, 1) := by decide +kernel
theorem dX6_name_51 : decode cX6_name 51 = .ok (.getfield 53, 3) := by decide +kernel
theorem dX6_name_54 : decode cX6_name 54 = .ok (.iload_n 1, 1) := by decide +kernel
theorem dX6_name_55 : decode cX6_name 55 = .ok (.invokevirtual 117, 3) := by decide +kernel
theorem dX6_name_58 : decode cX6_name 58 = .ok (.ifCond .eq 7, 3) := by decide +kernel
theorem dX6_name_61 : decode cX6_name 61 = .ok (.iconst 1, 1) := by decide +kernel
theorem dX6_name_62 : decode cX6_name 62 = .ok (.goto 4, 3) := by decide +kernel
theorem dX6_name_65 : decode cX6_name 65 = .ok (.iconst 0, 1) := by decide +kernel
theorem dX6_name_66 : decode cX6_name 66 = .ok (.ireturn, 1) := by decide +kernel
theorem dX6_name_67 : decode cX6_name 67 = .ok (.aload_n 0, 1) := by decide +kernel
theorem dX6_name_68 : decode cX6_name 68 = .ok (.getfield 53, 3) := by decide +kernel
theorem dX6_name_71 : decode cX6_name 71 = .ok (.getfield 120, 3) := by decide +kernel
theorem dX6_name_74 : decode cX6_name 74 = .ok (.iload_n 1, 1) := by decide +kernel
theorem dX6_name_75 : decode cX6_name 75 = .ok (.iaload, 1) := by decide +kernel
theorem dX6_name_76 : decode cX6_name 76 = .ok (.ireturn, 1) := by decide +kernel
theorem dX6_name_77 : decode cX6_name 77 = .ok (.bipush (-2), 2) := by decide +kernel
theorem dX6_name_79 : decode cX6_name 79 = .ok (.ireturn, 1) := by decide +kernel
theorem dX6_line_0 : decode cX6_line 0 = .ok (.aload_n 0, 1) := by decide +kernel
theorem dX6_line_1 : decode cX6_line 1 = .ok (.getfield 53, 3) := by decide +kernel
theorem dX6_line_4 : decode cX6_line 4 = .ok (.iload_n 1, 1) := by decide +kernel
theorem dX6_line_5 : decode cX6_line 5 = .ok (.invokevirtual 123, 3) := by decide +kernel
theorem dX6_line_8 : decode cX6_line 8 = .ok (.ifCond .ne 6, 3) := by decide +kernel
theorem dX6_line_11 : decode cX6_line 11 = .ok (.bipush (-2), 2) := by decide +kernel
theorem dX6_line_13 : decode cX6_line 13 = .ok (.ireturn, 1) := by decide +kernel
theorem dX6_line_14 : decode cX6_line 14 = .ok (.iload_n 2, 1) := by decide +kernel
theorem dX6_line_15 : decode cX6_line 15 = .ok (.tableswitch 69 0 3 #[29, 39, 49, 59], 29) := by decide +kernel
theorem dX6_line_44 : decode cX6_line 44 = .ok (.aload_n 0, 1) := by decide +kernel
theorem dX6_line_45 : decode cX6_line 45 = .ok (.getfield 53, 3) := by decide +kernel
theorem dX6_line_48 : decode cX6_line 48 = .ok (.getfield 126, 3) := by decide +kernel
theorem dX6_line_51 : decode cX6_line 51 = .ok (.iload_n 1, 1) := by decide +kernel
theorem dX6_line_52 : decode cX6_line 52 = .ok (.iaload, 1) := by decide +kernel
theorem dX6_line_53 : decode cX6_line 53 = .ok (.ireturn, 1) := by decide +kernel
theorem dX6_line_54 : decode cX6_line 54 = .ok (.aload_n 0, 1) := by decide +kernel
theorem dX6_line_55 : decode cX6_line 55 = .ok (.getfield 53, 3) := by decide +kernel
theorem dX6_line_58 : decode cX6_line 58 = .ok (.getfield 129, 3) := by decide +kernel
theorem dX6_line_61 : decode cX6_line 61 = .ok (.iload_n 1, 1) := by decide +kernel
theorem dX6_line_62 : decode cX6_line 62 = .ok (.iaload, 1) := by decide +kernel
theorem dX6_line_63 : decode cX6_line 63 = .ok (.ireturn, 1) := by decide +kernel
theorem dX6_line_64 : decode cX6_line 64 = .ok (.aload_n 0, 1) := by decide +kernel
theorem dX6_line_65 : decode cX6_line 65 = .ok (.getfield 53, 3) := by decide +kernel
theorem dX6_line_68 : decode cX6_line 68 = .ok (.getfield 132, 3) := by decide +kernel
theorem dX6_line_71 : decode cX6_line 71 = .ok (.iload_n 1, 1) := by decide +kernel
theorem dX6_line_72 : decode cX6_line 72 = .ok (.iaload, 1) := by decide +kernel
theorem dX6_line_73 : decode cX6_line 73 = .ok (.ireturn, 1) := by decide +kernel
theorem dX6_line_74 : decode cX6_line 74 = .ok (.aload_n 0, 1) := by decide +kernel
theorem dX6_line_75 : decode cX6_line 75 = .ok (.getfield 53, 3) := by decide +kernel
theorem dX6_line_78 : decode cX6_line 78 = .ok (.getfield 135, 3) := by decide +kernel
theorem dX6_line_81 : decode cX6_line 81 = .ok (.iload_n 1, 1) := by decide +kernel
theorem dX6_line_82 : decode cX6_line 82 = .ok (.iaload, 1) := by decide +kernel
theorem dX6_line_83 : decode cX6_line 83 = .ok (.ireturn, 1) := by decide +kernel
theorem dX6_line_84 : decode cX6_line 84 = .ok (.bipush (-2), 2) := by decide +kernel
theorem dX6_line_86 : decode cX6_line 86 = .ok (.ireturn, 1) := by decide +kernel
theorem dX6_struck_0 : decode cX6_struck 0 = .ok (.iload_n 1, 1) := by decide +kernel
theorem dX6_struck_1 : decode cX6_struck 1 = .ok (.sipush 255, 3) := by decide +kernel
theorem dX6_struck_4 : decode cX6_struck 4 = .ok (.invokestatic 78, 3) := by decide +kernel
theorem dX6_struck_7 : decode cX6_struck 7 = .ok (.ifCond .ne 6, 3) := by decide +kernel
theorem dX6_struck_10 : decode cX6_struck 10 = .ok (.bipush (-2), 2) := by decide +kernel
theorem dX6_struck_12 : decode cX6_struck 12 = .ok (.ireturn, 1) := by decide +kernel
theorem dX6_struck_13 : decode cX6_struck 13 = .ok (.aload_n 0, 1) := by decide +kernel
theorem dX6_struck_14 : decode cX6_struck 14 = .ok (.getfield 138, 3) := by decide +kernel
theorem dX6_struck_17 : decode cX6_struck 17 = .ok (.istore_n 2, 1) := by decide +kernel
theorem dX6_struck_18 : decode cX6_struck 18 = .ok (.aload_n 0, 1) := by decide +kernel
theorem dX6_struck_19 : decode cX6_struck 19 = .ok (.iload_n 1, 1) := by decide +kernel
theorem dX6_struck_20 : decode cX6_struck 20 = .ok (.putfield 138, 3) := by decide +kernel
theorem dX6_struck_23 : decode cX6_struck 23 = .ok (.aload_n 0, 1) := by decide +kernel
theorem dX6_struck_24 : decode cX6_struck 24 = .ok (.invokevirtual 89, 3) := by decide +kernel
theorem dX6_struck_27 : decode cX6_struck 27 = .ok (.iload_n 2, 1) := by decide +kernel
theorem dX6_struck_28 : decode cX6_struck 28 = .ok (.ireturn, 1) := by decide +kernel
theorem dX6_loss_0 : decode cX6_loss 0 = .ok (.iload_n 1, 1) := by decide +kernel
theorem dX6_loss_1 : decode cX6_loss 1 = .ok (.iload_n 2, 1) := by decide +kernel
theorem dX6_loss_2 : decode cX6_loss 2 = .ok (.invokestatic 141, 3) := by decide +kernel
theorem dX6_loss_5 : decode cX6_loss 5 = .ok (.ifCond .ne 6, 3) := by decide +kernel
theorem dX6_loss_8 : decode cX6_loss 8 = .ok (.bipush (-2), 2) := by decide +kernel
theorem dX6_loss_10 : decode cX6_loss 10 = .ok (.ireturn, 1) := by decide +kernel
theorem dX6_loss_11 : decode cX6_loss 11 = .ok (.aload_n 0, 1) := by decide +kernel
theorem dX6_loss_12 : decode cX6_loss 12 = .ok (.getfield 35, 3) := by decide +kernel
theorem dX6_loss_15 : decode cX6_loss 15 = .ok (.invokevirtual 144, 3) := by decide +kernel
theorem dX6_loss_18 : decode cX6_loss 18 = .ok (.ifCond .eq 8, 3) := by decide +kernel
theorem dX6_loss_21 : decode cX6_loss 21 = .ok (.bipush (-4), 2) := by decide +kernel
theorem dX6_loss_23 : decode cX6_loss 23 = .ok (.goto 12, 3) := by decide +kernel
theorem dX6_loss_26 : decode cX6_loss 26 = .ok (.aload_n 0, 1) := by decide +kernel
theorem dX6_loss_27 : decode cX6_loss 27 = .ok (.getfield 35, 3) := by decide +kernel
theorem dX6_loss_30 : decode cX6_loss 30 = .ok (.iload_n 1, 1) := by decide +kernel
theorem dX6_loss_31 : decode cX6_loss 31 = .ok (.iload_n 2, 1) := by decide +kernel
theorem dX6_loss_32 : decode cX6_loss 32 = .ok (.invokevirtual 145, 3) := by decide +kernel
theorem dX6_loss_35 : decode cX6_loss 35 = .ok (.ireturn, 1) := by decide +kernel
theorem dX6_back_0 : decode cX6_back 0 = .ok (.aload_n 0, 1) := by decide +kernel
theorem dX6_back_1 : decode cX6_back 1 = .ok (.getfield 35, 3) := by decide +kernel
theorem dX6_back_4 : decode cX6_back 4 = .ok (.getfield 148, 3) := by decide +kernel
theorem dX6_back_7 : decode cX6_back 7 = .ok (.ifCond .ne 6, 3) := by decide +kernel
theorem dX6_back_10 : decode cX6_back 10 = .ok (.bipush (-3), 2) := by decide +kernel
theorem dX6_back_12 : decode cX6_back 12 = .ok (.ireturn, 1) := by decide +kernel
theorem dX6_back_13 : decode cX6_back 13 = .ok (.aload_n 0, 1) := by decide +kernel
theorem dX6_back_14 : decode cX6_back 14 = .ok (.getfield 35, 3) := by decide +kernel
theorem dX6_back_17 : decode cX6_back 17 = .ok (.dup, 1) := by decide +kernel
theorem dX6_back_18 : decode cX6_back 18 = .ok (.getfield 148, 3) := by decide +kernel
theorem dX6_back_21 : decode cX6_back 21 = .ok (.iconst 1, 1) := by decide +kernel
theorem dX6_back_22 : decode cX6_back 22 = .ok (.isub, 1) := by decide +kernel
theorem dX6_back_23 : decode cX6_back 23 = .ok (.putfield 148, 3) := by decide +kernel
theorem dX6_back_26 : decode cX6_back 26 = .ok (.aload_n 0, 1) := by decide +kernel
theorem dX6_back_27 : decode cX6_back 27 = .ok (.getfield 35, 3) := by decide +kernel
theorem dX6_back_30 : decode cX6_back 30 = .ok (.getfield 148, 3) := by decide +kernel
theorem dX6_back_33 : decode cX6_back 33 = .ok (.ireturn, 1) := by decide +kernel
theorem dX6_read_0 : decode cX6_read 0 = .ok (.aload_n 0, 1) := by decide +kernel
theorem dX6_read_1 : decode cX6_read 1 = .ok (.iload_n 1, 1) := by decide +kernel
theorem dX6_read_2 : decode cX6_read 2 = .ok (.invokevirtual 151, 3) := by decide +kernel
theorem dX6_read_5 : decode cX6_read 5 = .ok (.astore_n 2, 1) := by decide +kernel
theorem dX6_read_6 : decode cX6_read 6 = .ok (.aload_n 2, 1) := by decide +kernel
theorem dX6_read_7 : decode cX6_read 7 = .ok (.ifnonnull 6, 3) := by decide +kernel
theorem dX6_read_10 : decode cX6_read 10 = .ok (.bipush (-2), 2) := by decide +kernel
theorem dX6_read_12 : decode cX6_read 12 = .ok (.ireturn, 1) := by decide +kernel
theorem dX6_read_13 : decode cX6_read 13 = .ok (.aload_n 2, 1) := by decide +kernel
theorem dX6_read_14 : decode cX6_read 14 = .ok (.getfield 155, 3) := by decide +kernel
theorem dX6_read_17 : decode cX6_read 17 = .ok (.ifCond .eq 9, 3) := by decide +kernel
theorem dX6_read_20 : decode cX6_read 20 = .ok (.aload_n 0, 1) := by decide +kernel
theorem dX6_read_21 : decode cX6_read 21 = .ok (.iconst 1, 1) := by decide +kernel
theorem dX6_read_22 : decode cX6_read 22 = .ok (.invokevirtual 159, 3) := by decide +kernel
theorem dX6_read_25 : decode cX6_read 25 = .ok (.ireturn, 1) := by decide +kernel
theorem dX6_read_26 : decode cX6_read 26 = .ok (.iconst 0, 1) := by decide +kernel
theorem dX6_read_27 : decode cX6_read 27 = .ok (.istore_n 3, 1) := by decide +kernel
theorem dX6_read_28 : decode cX6_read 28 = .ok (.iconst 0, 1) := by decide +kernel
theorem dX6_read_29 : decode cX6_read 29 = .ok (.istore 4, 2) := by decide +kernel
theorem dX6_read_31 : decode cX6_read 31 = .ok (.iload 4, 2) := by decide +kernel
theorem dX6_read_33 : decode cX6_read 33 = .ok (.iconst 1, 1) := by decide +kernel
theorem dX6_read_34 : decode cX6_read 34 = .ok (.iadd, 1) := by decide +kernel
theorem dX6_read_35 : decode cX6_read 35 = .ok (.aload_n 2, 1) := by decide +kernel
theorem dX6_read_36 : decode cX6_read 36 = .ok (.getfield 163, 3) := by decide +kernel
theorem dX6_read_39 : decode cX6_read 39 = .ok (.if_icmp .ge 71, 3) := by decide +kernel
theorem dX6_read_42 : decode cX6_read 42 = .ok (.aload_n 0, 1) := by decide +kernel
theorem dX6_read_43 : decode cX6_read 43 = .ok (.getfield 35, 3) := by decide +kernel
theorem dX6_read_46 : decode cX6_read 46 = .ok (.invokevirtual 144, 3) := by decide +kernel
theorem dX6_read_49 : decode cX6_read 49 = .ok (.ifCond .ne 61, 3) := by decide +kernel
theorem dX6_read_52 : decode cX6_read 52 = .ok (.aload_n 2, 1) := by decide +kernel
theorem dX6_read_53 : decode cX6_read 53 = .ok (.getfield 164, 3) := by decide +kernel
theorem dX6_read_56 : decode cX6_read 56 = .ok (.iload 4, 2) := by decide +kernel
theorem dX6_read_58 : decode cX6_read 58 = .ok (.iaload, 1) := by decide +kernel
theorem dX6_read_59 : decode cX6_read 59 = .ok (.aload_n 2, 1) := by decide +kernel
theorem dX6_read_60 : decode cX6_read 60 = .ok (.getfield 164, 3) := by decide +kernel
theorem dX6_read_63 : decode cX6_read 63 = .ok (.iload 4, 2) := by decide +kernel
theorem dX6_read_65 : decode cX6_read 65 = .ok (.iconst 1, 1) := by decide +kernel
theorem dX6_read_66 : decode cX6_read 66 = .ok (.iadd, 1) := by decide +kernel
theorem dX6_read_67 : decode cX6_read 67 = .ok (.iaload, 1) := by decide +kernel
theorem dX6_read_68 : decode cX6_read 68 = .ok (.invokestatic 141, 3) := by decide +kernel
theorem dX6_read_71 : decode cX6_read 71 = .ok (.ifCond .ne 6, 3) := by decide +kernel
theorem dX6_read_74 : decode cX6_read 74 = .ok (.goto 36, 3) := by decide +kernel
theorem dX6_read_77 : decode cX6_read 77 = .ok (.aload_n 0, 1) := by decide +kernel
theorem dX6_read_78 : decode cX6_read 78 = .ok (.getfield 35, 3) := by decide +kernel
theorem dX6_read_81 : decode cX6_read 81 = .ok (.aload_n 2, 1) := by decide +kernel
theorem dX6_read_82 : decode cX6_read 82 = .ok (.getfield 164, 3) := by decide +kernel
theorem dX6_read_85 : decode cX6_read 85 = .ok (.iload 4, 2) := by decide +kernel
theorem dX6_read_87 : decode cX6_read 87 = .ok (.iaload, 1) := by decide +kernel
theorem dX6_read_88 : decode cX6_read 88 = .ok (.aload_n 2, 1) := by decide +kernel
theorem dX6_read_89 : decode cX6_read 89 = .ok (.getfield 164, 3) := by decide +kernel
theorem dX6_read_92 : decode cX6_read 92 = .ok (.iload 4, 2) := by decide +kernel
theorem dX6_read_94 : decode cX6_read 94 = .ok (.iconst 1, 1) := by decide +kernel
theorem dX6_read_95 : decode cX6_read 95 = .ok (.iadd, 1) := by decide +kernel
theorem dX6_read_96 : decode cX6_read 96 = .ok (.iaload, 1) := by decide +kernel
theorem dX6_read_97 : decode cX6_read 97 = .ok (.invokevirtual 145, 3) := by decide +kernel
theorem dX6_read_100 : decode cX6_read 100 = .ok (.pop, 1) := by decide +kernel
theorem dX6_read_101 : decode cX6_read 101 = .ok (.iinc 3 1, 3) := by decide +kernel
theorem dX6_read_104 : decode cX6_read 104 = .ok (.iinc 4 2, 3) := by decide +kernel
theorem dX6_read_107 : decode cX6_read 107 = .ok (.goto (-76), 3) := by decide +kernel
theorem dX6_read_110 : decode cX6_read 110 = .ok (.iload_n 3, 1) := by decide +kernel
theorem dX6_read_111 : decode cX6_read 111 = .ok (.ireturn, 1) := by decide +kernel
theorem dX6_bearer_0 : decode cX6_bearer 0 = .ok (.aload_n 0, 1) := by decide +kernel
theorem dX6_bearer_1 : decode cX6_bearer 1 = .ok (.getfield 53, 3) := by decide +kernel
theorem dX6_bearer_4 : decode cX6_bearer 4 = .ok (.iload_n 1, 1) := by decide +kernel
theorem dX6_bearer_5 : decode cX6_bearer 5 = .ok (.invokevirtual 111, 3) := by decide +kernel
theorem dX6_bearer_8 : decode cX6_bearer 8 = .ok (.ifCond .ne 6, 3) := by decide +kernel
theorem dX6_bearer_11 : decode cX6_bearer 11 = .ok (.bipush (-2), 2) := by decide +kernel
theorem dX6_bearer_13 : decode cX6_bearer 13 = .ok (.ireturn, 1) := by decide +kernel
theorem dX6_bearer_14 : decode cX6_bearer 14 = .ok (.iload_n 2, 1) := by decide +kernel
theorem dX6_bearer_15 : decode cX6_bearer 15 = .ok (.tableswitch 63 0 2 #[25, 35, 44], 25) := by decide +kernel
theorem dX6_bearer_40 : decode cX6_bearer 40 = .ok (.aload_n 0, 1) := by decide +kernel
theorem dX6_bearer_41 : decode cX6_bearer 41 = .ok (.getfield 53, 3) := by decide +kernel
theorem dX6_bearer_44 : decode cX6_bearer 44 = .ok (.getfield 167, 3) := by decide +kernel
theorem dX6_bearer_47 : decode cX6_bearer 47 = .ok (.iload_n 1, 1) := by decide +kernel
theorem dX6_bearer_48 : decode cX6_bearer 48 = .ok (.iaload, 1) := by decide +kernel
theorem dX6_bearer_49 : decode cX6_bearer 49 = .ok (.ireturn, 1) := by decide +kernel
theorem dX6_bearer_50 : decode cX6_bearer 50 = .ok (.aload_n 0, 1) := by decide +kernel
theorem dX6_bearer_51 : decode cX6_bearer 51 = .ok (.getfield 53, 3) := by decide +kernel
theorem dX6_bearer_54 : decode cX6_bearer 54 = .ok (.iload_n 1, 1) := by decide +kernel
theorem dX6_bearer_55 : decode cX6_bearer 55 = .ok (.invokevirtual 170, 3) := by decide +kernel
theorem dX6_bearer_58 : decode cX6_bearer 58 = .ok (.ireturn, 1) := by decide +kernel
theorem dX6_bearer_59 : decode cX6_bearer 59 = .ok (.aload_n 0, 1) := by decide +kernel
theorem dX6_bearer_60 : decode cX6_bearer 60 = .ok (.getfield 53, 3) := by decide +kernel
theorem dX6_bearer_63 : decode cX6_bearer 63 = .ok (.getfield 167, 3) := by decide +kernel
theorem dX6_bearer_66 : decode cX6_bearer 66 = .ok (.iload_n 1, 1) := by decide +kernel
theorem dX6_bearer_67 : decode cX6_bearer 67 = .ok (.iaload, 1) := by decide +kernel
theorem dX6_bearer_68 : decode cX6_bearer 68 = .ok (.iconst (-1), 1) := by decide +kernel
theorem dX6_bearer_69 : decode cX6_bearer 69 = .ok (.if_icmp .ne 7, 3) := by decide +kernel
theorem dX6_bearer_72 : decode cX6_bearer 72 = .ok (.iconst 1, 1) := by decide +kernel
theorem dX6_bearer_73 : decode cX6_bearer 73 = .ok (.goto 4, 3) := by decide +kernel
theorem dX6_bearer_76 : decode cX6_bearer 76 = .ok (.iconst 0, 1) := by decide +kernel
theorem dX6_bearer_77 : decode cX6_bearer 77 = .ok (.ireturn, 1) := by decide +kernel
theorem dX6_bearer_78 : decode cX6_bearer 78 = .ok (.bipush (-2), 2) := by decide +kernel
theorem dX6_bearer_80 : decode cX6_bearer 80 = .ok (.ireturn, 1) := by decide +kernel
theorem dX6_borne_0 : decode cX6_borne 0 = .ok (.aload_n 0, 1) := by decide +kernel
theorem dX6_borne_1 : decode cX6_borne 1 = .ok (.getfield 53, 3) := by decide +kernel
theorem dX6_borne_4 : decode cX6_borne 4 = .ok (.iload_n 1, 1) := by decide +kernel
theorem dX6_borne_5 : decode cX6_borne 5 = .ok (.invokevirtual 100, 3) := by decide +kernel
theorem dX6_borne_8 : decode cX6_borne 8 = .ok (.ifCond .eq 26, 3) := by decide +kernel
theorem dX6_borne_11 : decode cX6_borne 11 = .ok (.aload_n 0, 1) := by decide +kernel
theorem dX6_borne_12 : decode cX6_borne 12 = .ok (.getfield 53, 3) := by decide +kernel
theorem dX6_borne_15 : decode cX6_borne 15 = .ok (.iload_n 2, 1) := by decide +kernel
theorem dX6_borne_16 : decode cX6_borne 16 = .ok (.invokevirtual 111, 3) := by decide +kernel
theorem dX6_borne_19 : decode cX6_borne 19 = .ok (.ifCond .eq 15, 3) := by decide +kernel
theorem dX6_borne_22 : decode cX6_borne 22 = .ok (.aload_n 0, 1) := by decide +kernel
theorem dX6_borne_23 : decode cX6_borne 23 = .ok (.getfield 53, 3) := by decide +kernel
theorem dX6_borne_26 : decode cX6_borne 26 = .ok (.iload_n 1, 1) := by decide +kernel
theorem dX6_borne_27 : decode cX6_borne 27 = .ok (.iload_n 2, 1) := by decide +kernel
theorem dX6_borne_28 : decode cX6_borne 28 = .ok (.invokevirtual 173, 3) := by decide +kernel
theorem dX6_borne_31 : decode cX6_borne 31 = .ok (.goto 5, 3) := by decide +kernel
theorem dX6_borne_34 : decode cX6_borne 34 = .ok (.bipush (-2), 2) := by decide +kernel
theorem dX6_borne_36 : decode cX6_borne 36 = .ok (.ireturn, 1) := by decide +kernel
theorem dX6_unborne_0 : decode cX6_unborne 0 = .ok (.aload_n 0, 1) := by decide +kernel
theorem dX6_unborne_1 : decode cX6_unborne 1 = .ok (.getfield 53, 3) := by decide +kernel
theorem dX6_unborne_4 : decode cX6_unborne 4 = .ok (.iload_n 1, 1) := by decide +kernel
theorem dX6_unborne_5 : decode cX6_unborne 5 = .ok (.invokevirtual 100, 3) := by decide +kernel
theorem dX6_unborne_8 : decode cX6_unborne 8 = .ok (.ifCond .eq 15, 3) := by decide +kernel
theorem dX6_unborne_11 : decode cX6_unborne 11 = .ok (.aload_n 0, 1) := by decide +kernel
theorem dX6_unborne_12 : decode cX6_unborne 12 = .ok (.getfield 53, 3) := by decide +kernel
theorem dX6_unborne_15 : decode cX6_unborne 15 = .ok (.iload_n 1, 1) := by decide +kernel
theorem dX6_unborne_16 : decode cX6_unborne 16 = .ok (.iconst (-1), 1) := by decide +kernel
theorem dX6_unborne_17 : decode cX6_unborne 17 = .ok (.invokevirtual 173, 3) := by decide +kernel
theorem dX6_unborne_20 : decode cX6_unborne 20 = .ok (.goto 5, 3) := by decide +kernel
theorem dX6_unborne_23 : decode cX6_unborne 23 = .ok (.bipush (-2), 2) := by decide +kernel
theorem dX6_unborne_25 : decode cX6_unborne 25 = .ok (.ireturn, 1) := by decide +kernel
theorem dX6_left_0 : decode cX6_left 0 = .ok (.iload_n 1, 1) := by decide +kernel
theorem dX6_left_1 : decode cX6_left 1 = .ok (.invokestatic 176, 3) := by decide +kernel
theorem dX6_left_4 : decode cX6_left 4 = .ok (.ifCond .eq 14, 3) := by decide +kernel
theorem dX6_left_7 : decode cX6_left 7 = .ok (.aload_n 0, 1) := by decide +kernel
theorem dX6_left_8 : decode cX6_left 8 = .ok (.getfield 53, 3) := by decide +kernel
theorem dX6_left_11 : decode cX6_left 11 = .ok (.iload_n 2, 1) := by decide +kernel
theorem dX6_left_12 : decode cX6_left 12 = .ok (.invokevirtual 111, 3) := by decide +kernel
theorem dX6_left_15 : decode cX6_left 15 = .ok (.ifCond .ne 6, 3) := by decide +kernel
theorem dX6_left_18 : decode cX6_left 18 = .ok (.bipush (-2), 2) := by decide +kernel
theorem dX6_left_20 : decode cX6_left 20 = .ok (.ireturn, 1) := by decide +kernel
theorem dX6_left_21 : decode cX6_left 21 = .ok (.aload_n 0, 1) := by decide +kernel
theorem dX6_left_22 : decode cX6_left 22 = .ok (.getfield 57, 3) := by decide +kernel
theorem dX6_left_25 : decode cX6_left 25 = .ok (.aload_n 0, 1) := by decide +kernel
theorem dX6_left_26 : decode cX6_left 26 = .ok (.getfield 35, 3) := by decide +kernel
theorem dX6_left_29 : decode cX6_left 29 = .ok (.iload_n 1, 1) := by decide +kernel
theorem dX6_left_30 : decode cX6_left 30 = .ok (.invokevirtual 179, 3) := by decide +kernel
theorem dX6_left_33 : decode cX6_left 33 = .ok (.aload_n 0, 1) := by decide +kernel
theorem dX6_left_34 : decode cX6_left 34 = .ok (.getfield 57, 3) := by decide +kernel
theorem dX6_left_37 : decode cX6_left 37 = .ok (.getfield 183, 3) := by decide +kernel
theorem dX6_left_40 : decode cX6_left 40 = .ok (.iload_n 2, 1) := by decide +kernel
theorem dX6_left_41 : decode cX6_left 41 = .ok (.iaload, 1) := by decide +kernel
theorem dX6_left_42 : decode cX6_left 42 = .ok (.ireturn, 1) := by decide +kernel
theorem dX6_behind_0 : decode cX6_behind 0 = .ok (.iload_n 1, 1) := by decide +kernel
theorem dX6_behind_1 : decode cX6_behind 1 = .ok (.invokestatic 176, 3) := by decide +kernel
theorem dX6_behind_4 : decode cX6_behind 4 = .ok (.ifCond .eq 11, 3) := by decide +kernel
theorem dX6_behind_7 : decode cX6_behind 7 = .ok (.iload_n 2, 1) := by decide +kernel
theorem dX6_behind_8 : decode cX6_behind 8 = .ok (.iconst 1, 1) := by decide +kernel
theorem dX6_behind_9 : decode cX6_behind 9 = .ok (.invokestatic 78, 3) := by decide +kernel
theorem dX6_behind_12 : decode cX6_behind 12 = .ok (.ifCond .ne 6, 3) := by decide +kernel
theorem dX6_behind_15 : decode cX6_behind 15 = .ok (.bipush (-2), 2) := by decide +kernel
theorem dX6_behind_17 : decode cX6_behind 17 = .ok (.ireturn, 1) := by decide +kernel
theorem dX6_behind_18 : decode cX6_behind 18 = .ok (.aload_n 0, 1) := by decide +kernel
theorem dX6_behind_19 : decode cX6_behind 19 = .ok (.getfield 57, 3) := by decide +kernel
theorem dX6_behind_22 : decode cX6_behind 22 = .ok (.aload_n 0, 1) := by decide +kernel
theorem dX6_behind_23 : decode cX6_behind 23 = .ok (.getfield 35, 3) := by decide +kernel
theorem dX6_behind_26 : decode cX6_behind 26 = .ok (.iload_n 1, 1) := by decide +kernel
theorem dX6_behind_27 : decode cX6_behind 27 = .ok (.invokevirtual 179, 3) := by decide +kernel
theorem dX6_behind_30 : decode cX6_behind 30 = .ok (.iload_n 2, 1) := by decide +kernel
theorem dX6_behind_31 : decode cX6_behind 31 = .ok (.ifCond .ne 13, 3) := by decide +kernel
theorem dX6_behind_34 : decode cX6_behind 34 = .ok (.aload_n 0, 1) := by decide +kernel
theorem dX6_behind_35 : decode cX6_behind 35 = .ok (.getfield 57, 3) := by decide +kernel
theorem dX6_behind_38 : decode cX6_behind 38 = .ok (.getfield 186, 3) := by decide +kernel
theorem dX6_behind_41 : decode cX6_behind 41 = .ok (.goto 10, 3) := by decide +kernel
theorem dX6_behind_44 : decode cX6_behind 44 = .ok (.aload_n 0, 1) := by decide +kernel
theorem dX6_behind_45 : decode cX6_behind 45 = .ok (.getfield 57, 3) := by decide +kernel
theorem dX6_behind_48 : decode cX6_behind 48 = .ok (.getfield 189, 3) := by decide +kernel
theorem dX6_behind_51 : decode cX6_behind 51 = .ok (.ireturn, 1) := by decide +kernel
theorem dX6_paid_0 : decode cX6_paid 0 = .ok (.iload_n 1, 1) := by decide +kernel
theorem dX6_paid_1 : decode cX6_paid 1 = .ok (.invokestatic 176, 3) := by decide +kernel
theorem dX6_paid_4 : decode cX6_paid 4 = .ok (.ifCond .eq 14, 3) := by decide +kernel
theorem dX6_paid_7 : decode cX6_paid 7 = .ok (.aload_n 0, 1) := by decide +kernel
theorem dX6_paid_8 : decode cX6_paid 8 = .ok (.getfield 53, 3) := by decide +kernel
theorem dX6_paid_11 : decode cX6_paid 11 = .ok (.iload_n 2, 1) := by decide +kernel
theorem dX6_paid_12 : decode cX6_paid 12 = .ok (.invokevirtual 100, 3) := by decide +kernel
theorem dX6_paid_15 : decode cX6_paid 15 = .ok (.ifCond .ne 6, 3) := by decide +kernel
theorem dX6_paid_18 : decode cX6_paid 18 = .ok (.bipush (-2), 2) := by decide +kernel
theorem dX6_paid_20 : decode cX6_paid 20 = .ok (.ireturn, 1) := by decide +kernel
theorem dX6_paid_21 : decode cX6_paid 21 = .ok (.aload_n 0, 1) := by decide +kernel
theorem dX6_paid_22 : decode cX6_paid 22 = .ok (.getfield 57, 3) := by decide +kernel
theorem dX6_paid_25 : decode cX6_paid 25 = .ok (.aload_n 0, 1) := by decide +kernel
theorem dX6_paid_26 : decode cX6_paid 26 = .ok (.getfield 35, 3) := by decide +kernel
theorem dX6_paid_29 : decode cX6_paid 29 = .ok (.iload_n 1, 1) := by decide +kernel
theorem dX6_paid_30 : decode cX6_paid 30 = .ok (.invokevirtual 179, 3) := by decide +kernel
theorem dX6_paid_33 : decode cX6_paid 33 = .ok (.aload_n 0, 1) := by decide +kernel
theorem dX6_paid_34 : decode cX6_paid 34 = .ok (.getfield 57, 3) := by decide +kernel
theorem dX6_paid_37 : decode cX6_paid 37 = .ok (.getfield 191, 3) := by decide +kernel
theorem dX6_paid_40 : decode cX6_paid 40 = .ok (.iload_n 2, 1) := by decide +kernel
theorem dX6_paid_41 : decode cX6_paid 41 = .ok (.iaload, 1) := by decide +kernel
theorem dX6_paid_42 : decode cX6_paid 42 = .ok (.ireturn, 1) := by decide +kernel
theorem dX6_first_0 : decode cX6_first 0 = .ok (.iload_n 1, 1) := by decide +kernel
theorem dX6_first_1 : decode cX6_first 1 = .ok (.iconst 1, 1) := by decide +kernel
theorem dX6_first_2 : decode cX6_first 2 = .ok (.invokestatic 78, 3) := by decide +kernel
theorem dX6_first_5 : decode cX6_first 5 = .ok (.ifCond .ne 6, 3) := by decide +kernel
theorem dX6_first_8 : decode cX6_first 8 = .ok (.bipush (-2), 2) := by decide +kernel
theorem dX6_first_10 : decode cX6_first 10 = .ok (.ireturn, 1) := by decide +kernel
theorem dX6_first_11 : decode cX6_first 11 = .ok (.aload_n 0, 1) := by decide +kernel
theorem dX6_first_12 : decode cX6_first 12 = .ok (.getfield 57, 3) := by decide +kernel
theorem dX6_first_15 : decode cX6_first 15 = .ok (.aload_n 0, 1) := by decide +kernel
theorem dX6_first_16 : decode cX6_first 16 = .ok (.getfield 35, 3) := by decide +kernel
theorem dX6_first_19 : decode cX6_first 19 = .ok (.bipush 29, 2) := by decide +kernel
theorem dX6_first_21 : decode cX6_first 21 = .ok (.invokevirtual 179, 3) := by decide +kernel
theorem dX6_first_24 : decode cX6_first 24 = .ok (.iload_n 1, 1) := by decide +kernel
theorem dX6_first_25 : decode cX6_first 25 = .ok (.ifCond .ne 13, 3) := by decide +kernel
theorem dX6_first_28 : decode cX6_first 28 = .ok (.aload_n 0, 1) := by decide +kernel
theorem dX6_first_29 : decode cX6_first 29 = .ok (.getfield 57, 3) := by decide +kernel
theorem dX6_first_32 : decode cX6_first 32 = .ok (.getfield 194, 3) := by decide +kernel
theorem dX6_first_35 : decode cX6_first 35 = .ok (.goto 10, 3) := by decide +kernel
theorem dX6_first_38 : decode cX6_first 38 = .ok (.aload_n 0, 1) := by decide +kernel
theorem dX6_first_39 : decode cX6_first 39 = .ok (.getfield 57, 3) := by decide +kernel
theorem dX6_first_42 : decode cX6_first 42 = .ok (.getfield 197, 3) := by decide +kernel
theorem dX6_first_45 : decode cX6_first 45 = .ok (.ireturn, 1) := by decide +kernel
theorem dX6_safe_0 : decode cX6_safe 0 = .ok (.iconst 0, 1) := by decide +kernel
theorem dX6_safe_1 : decode cX6_safe 1 = .ok (.istore_n 1, 1) := by decide +kernel
theorem dX6_safe_2 : decode cX6_safe 2 = .ok (.iconst 0, 1) := by decide +kernel
theorem dX6_safe_3 : decode cX6_safe 3 = .ok (.istore_n 2, 1) := by decide +kernel
theorem dX6_safe_4 : decode cX6_safe 4 = .ok (.iload_n 2, 1) := by decide +kernel
theorem dX6_safe_5 : decode cX6_safe 5 = .ok (.aload_n 0, 1) := by decide +kernel
theorem dX6_safe_6 : decode cX6_safe 6 = .ok (.getfield 53, 3) := by decide +kernel
theorem dX6_safe_9 : decode cX6_safe 9 = .ok (.getfield 200, 3) := by decide +kernel
theorem dX6_safe_12 : decode cX6_safe 12 = .ok (.if_icmp .ge 37, 3) := by decide +kernel
theorem dX6_safe_15 : decode cX6_safe 15 = .ok (.aload_n 0, 1) := by decide +kernel
theorem dX6_safe_16 : decode cX6_safe 16 = .ok (.getfield 57, 3) := by decide +kernel
theorem dX6_safe_19 : decode cX6_safe 19 = .ok (.iload_n 2, 1) := by decide +kernel
theorem dX6_safe_20 : decode cX6_safe 20 = .ok (.sipush 255, 3) := by decide +kernel
theorem dX6_safe_23 : decode cX6_safe 23 = .ok (.invokevirtual 203, 3) := by decide +kernel
theorem dX6_safe_26 : decode cX6_safe 26 = .ok (.pop, 1) := by decide +kernel
theorem dX6_safe_27 : decode cX6_safe 27 = .ok (.aload_n 0, 1) := by decide +kernel
theorem dX6_safe_28 : decode cX6_safe 28 = .ok (.getfield 57, 3) := by decide +kernel
theorem dX6_safe_31 : decode cX6_safe 31 = .ok (.getfield 186, 3) := by decide +kernel
theorem dX6_safe_34 : decode cX6_safe 34 = .ok (.ifCond .ne 9, 3) := by decide +kernel
theorem dX6_safe_37 : decode cX6_safe 37 = .ok (.iload_n 1, 1) := by decide +kernel
theorem dX6_safe_38 : decode cX6_safe 38 = .ok (.iconst 1, 1) := by decide +kernel
theorem dX6_safe_39 : decode cX6_safe 39 = .ok (.iload_n 2, 1) := by decide +kernel
theorem dX6_safe_40 : decode cX6_safe 40 = .ok (.ishl, 1) := by decide +kernel
theorem dX6_safe_41 : decode cX6_safe 41 = .ok (.ior, 1) := by decide +kernel
theorem dX6_safe_42 : decode cX6_safe 42 = .ok (.istore_n 1, 1) := by decide +kernel
theorem dX6_safe_43 : decode cX6_safe 43 = .ok (.iinc 2 1, 3) := by decide +kernel
theorem dX6_safe_46 : decode cX6_safe 46 = .ok (.goto (-42), 3) := by decide +kernel
theorem dX6_safe_49 : decode cX6_safe 49 = .ok (.iload_n 1, 1) := by decide +kernel
theorem dX6_safe_50 : decode cX6_safe 50 = .ok (.ireturn, 1) := by decide +kernel
theorem dX6_take_0 : decode cX6_take 0 = .ok (.aload_n 0, 1) := by decide +kernel
theorem dX6_take_1 : decode cX6_take 1 = .ok (.getfield 53, 3) := by decide +kernel
theorem dX6_take_4 : decode cX6_take 4 = .ok (.iload_n 1, 1) := by decide +kernel
theorem dX6_take_5 : decode cX6_take 5 = .ok (.invokevirtual 100, 3) := by decide +kernel
theorem dX6_take_8 : decode cX6_take 8 = .ok (.ifCond .ne 6, 3) := by decide +kernel
theorem dX6_take_11 : decode cX6_take 11 = .ok (.bipush (-2), 2) := by decide +kernel
theorem dX6_take_13 : decode cX6_take 13 = .ok (.ireturn, 1) := by decide +kernel
theorem dX6_take_14 : decode cX6_take 14 = .ok (.iconst (-1), 1) := by decide +kernel
theorem dX6_take_15 : decode cX6_take 15 = .ok (.istore_n 2, 1) := by decide +kernel
theorem dX6_take_16 : decode cX6_take 16 = .ok (.iconst 0, 1) := by decide +kernel
theorem dX6_take_17 : decode cX6_take 17 = .ok (.istore_n 3, 1) := by decide +kernel
theorem dX6_take_18 : decode cX6_take 18 = .ok (.iconst 1, 1) := by decide +kernel
theorem dX6_take_19 : decode cX6_take 19 = .ok (.istore 4, 2) := by decide +kernel
theorem dX6_take_21 : decode cX6_take 21 = .ok (.iload 4, 2) := by decide +kernel
theorem dX6_take_23 : decode cX6_take 23 = .ok (.iconst 1, 1) := by decide +kernel
theorem dX6_take_24 : decode cX6_take 24 = .ok (.aload_n 0, 1) := by decide +kernel
theorem dX6_take_25 : decode cX6_take 25 = .ok (.getfield 53, 3) := by decide +kernel
theorem dX6_take_28 : decode cX6_take 28 = .ok (.getfield 206, 3) := by decide +kernel
theorem dX6_take_31 : decode cX6_take 31 = .ok (.ishl, 1) := by decide +kernel
theorem dX6_take_32 : decode cX6_take 32 = .ok (.if_icmp .ge 90, 3) := by decide +kernel
theorem dX6_take_35 : decode cX6_take 35 = .ok (.aload_n 0, 1) := by decide +kernel
theorem dX6_take_36 : decode cX6_take 36 = .ok (.getfield 53, 3) := by decide +kernel
theorem dX6_take_39 : decode cX6_take 39 = .ok (.iload 4, 2) := by decide +kernel
theorem dX6_take_41 : decode cX6_take 41 = .ok (.invokevirtual 209, 3) := by decide +kernel
theorem dX6_take_44 : decode cX6_take 44 = .ok (.istore 5, 2) := by decide +kernel
theorem dX6_take_46 : decode cX6_take 46 = .ok (.iload 4, 2) := by decide +kernel
theorem dX6_take_48 : decode cX6_take 48 = .ok (.aload_n 0, 1) := by decide +kernel
theorem dX6_take_49 : decode cX6_take 49 = .ok (.getfield 138, 3) := by decide +kernel
theorem dX6_take_52 : decode cX6_take 52 = .ok (.iand, 1) := by decide +kernel
theorem dX6_take_53 : decode cX6_take 53 = .ok (.ifCond .ne 63, 3) := by decide +kernel
theorem dX6_take_56 : decode cX6_take 56 = .ok (.iload 5, 2) := by decide +kernel
theorem dX6_take_58 : decode cX6_take 58 = .ok (.aload_n 0, 1) := by decide +kernel
theorem dX6_take_59 : decode cX6_take 59 = .ok (.getfield 53, 3) := by decide +kernel
theorem dX6_take_62 : decode cX6_take 62 = .ok (.getfield 104, 3) := by decide +kernel
theorem dX6_take_65 : decode cX6_take 65 = .ok (.iload_n 1, 1) := by decide +kernel
theorem dX6_take_66 : decode cX6_take 66 = .ok (.iaload, 1) := by decide +kernel
theorem dX6_take_67 : decode cX6_take 67 = .ok (.if_icmp .ge 6, 3) := by decide +kernel
theorem dX6_take_70 : decode cX6_take 70 = .ok (.goto 46, 3) := by decide +kernel
theorem dX6_take_73 : decode cX6_take 73 = .ok (.iload_n 2, 1) := by decide +kernel
theorem dX6_take_74 : decode cX6_take 74 = .ok (.iconst (-1), 1) := by decide +kernel
theorem dX6_take_75 : decode cX6_take 75 = .ok (.if_icmp .ne 7, 3) := by decide +kernel
theorem dX6_take_78 : decode cX6_take 78 = .ok (.iconst (-1), 1) := by decide +kernel
theorem dX6_take_79 : decode cX6_take 79 = .ok (.goto 13, 3) := by decide +kernel
theorem dX6_take_82 : decode cX6_take 82 = .ok (.iload 4, 2) := by decide +kernel
theorem dX6_take_84 : decode cX6_take 84 = .ok (.invokestatic 212, 3) := by decide +kernel
theorem dX6_take_87 : decode cX6_take 87 = .ok (.iload_n 2, 1) := by decide +kernel
theorem dX6_take_88 : decode cX6_take 88 = .ok (.invokestatic 212, 3) := by decide +kernel
theorem dX6_take_91 : decode cX6_take 91 = .ok (.isub, 1) := by decide +kernel
theorem dX6_take_92 : decode cX6_take 92 = .ok (.istore 6, 2) := by decide +kernel
theorem dX6_take_94 : decode cX6_take 94 = .ok (.iload 6, 2) := by decide +kernel
theorem dX6_take_96 : decode cX6_take 96 = .ok (.ifCond .lt 14, 3) := by decide +kernel
theorem dX6_take_99 : decode cX6_take 99 = .ok (.iload 6, 2) := by decide +kernel
theorem dX6_take_101 : decode cX6_take 101 = .ok (.ifCond .ne 15, 3) := by decide +kernel
theorem dX6_take_104 : decode cX6_take 104 = .ok (.iload 5, 2) := by decide +kernel
theorem dX6_take_106 : decode cX6_take 106 = .ok (.iload_n 3, 1) := by decide +kernel
theorem dX6_take_107 : decode cX6_take 107 = .ok (.if_icmp .ge 9, 3) := by decide +kernel
theorem dX6_take_110 : decode cX6_take 110 = .ok (.iload 4, 2) := by decide +kernel
theorem dX6_take_112 : decode cX6_take 112 = .ok (.istore_n 2, 1) := by decide +kernel
theorem dX6_take_113 : decode cX6_take 113 = .ok (.iload 5, 2) := by decide +kernel
theorem dX6_take_115 : decode cX6_take 115 = .ok (.istore_n 3, 1) := by decide +kernel
theorem dX6_take_116 : decode cX6_take 116 = .ok (.iinc 4 1, 3) := by decide +kernel
theorem dX6_take_119 : decode cX6_take 119 = .ok (.goto (-98), 3) := by decide +kernel
theorem dX6_take_122 : decode cX6_take 122 = .ok (.iload_n 2, 1) := by decide +kernel
theorem dX6_take_123 : decode cX6_take 123 = .ok (.ireturn, 1) := by decide +kernel
theorem dX6_strike_0 : decode cX6_strike 0 = .ok (.aload_n 0, 1) := by decide +kernel
theorem dX6_strike_1 : decode cX6_strike 1 = .ok (.getfield 53, 3) := by decide +kernel
theorem dX6_strike_4 : decode cX6_strike 4 = .ok (.iload_n 1, 1) := by decide +kernel
theorem dX6_strike_5 : decode cX6_strike 5 = .ok (.invokevirtual 111, 3) := by decide +kernel
theorem dX6_strike_8 : decode cX6_strike 8 = .ok (.ifCond .eq 14, 3) := by decide +kernel
theorem dX6_strike_11 : decode cX6_strike 11 = .ok (.aload_n 0, 1) := by decide +kernel
theorem dX6_strike_12 : decode cX6_strike 12 = .ok (.getfield 53, 3) := by decide +kernel
theorem dX6_strike_15 : decode cX6_strike 15 = .ok (.iload_n 2, 1) := by decide +kernel
theorem dX6_strike_16 : decode cX6_strike 16 = .ok (.invokevirtual 111, 3) := by decide +kernel
theorem dX6_strike_19 : decode cX6_strike 19 = .ok (.ifCond .ne 7, 3) := by decide +kernel
theorem dX6_strike_22 : decode cX6_strike 22 = .ok (.sipush (-1002), 3) := by decide +kernel
theorem dX6_strike_25 : decode cX6_strike 25 = .ok (.ireturn, 1) := by decide +kernel
theorem dX6_strike_26 : decode cX6_strike 26 = .ok (.aload_n 0, 1) := by decide +kernel
theorem dX6_strike_27 : decode cX6_strike 27 = .ok (.getfield 53, 3) := by decide +kernel
theorem dX6_strike_30 : decode cX6_strike 30 = .ok (.iload_n 1, 1) := by decide +kernel
theorem dX6_strike_31 : decode cX6_strike 31 = .ok (.invokevirtual 217, 3) := by decide +kernel
theorem dX6_strike_34 : decode cX6_strike 34 = .ok (.istore_n 3, 1) := by decide +kernel
theorem dX6_strike_35 : decode cX6_strike 35 = .ok (.aload_n 0, 1) := by decide +kernel
theorem dX6_strike_36 : decode cX6_strike 36 = .ok (.getfield 53, 3) := by decide +kernel
theorem dX6_strike_39 : decode cX6_strike 39 = .ok (.aload_n 0, 1) := by decide +kernel
theorem dX6_strike_40 : decode cX6_strike 40 = .ok (.getfield 138, 3) := by decide +kernel
theorem dX6_strike_43 : decode cX6_strike 43 = .ok (.iconst 1, 1) := by decide +kernel
theorem dX6_strike_44 : decode cX6_strike 44 = .ok (.iload_n 2, 1) := by decide +kernel
theorem dX6_strike_45 : decode cX6_strike 45 = .ok (.ishl, 1) := by decide +kernel
theorem dX6_strike_46 : decode cX6_strike 46 = .ok (.ior, 1) := by decide +kernel
theorem dX6_strike_47 : decode cX6_strike 47 = .ok (.invokevirtual 220, 3) := by decide +kernel
theorem dX6_strike_50 : decode cX6_strike 50 = .ok (.aload_n 0, 1) := by decide +kernel
theorem dX6_strike_51 : decode cX6_strike 51 = .ok (.getfield 53, 3) := by decide +kernel
theorem dX6_strike_54 : decode cX6_strike 54 = .ok (.iload_n 1, 1) := by decide +kernel
theorem dX6_strike_55 : decode cX6_strike 55 = .ok (.invokevirtual 217, 3) := by decide +kernel
theorem dX6_strike_58 : decode cX6_strike 58 = .ok (.istore 4, 2) := by decide +kernel
theorem dX6_strike_60 : decode cX6_strike 60 = .ok (.aload_n 0, 1) := by decide +kernel
theorem dX6_strike_61 : decode cX6_strike 61 = .ok (.getfield 53, 3) := by decide +kernel
theorem dX6_strike_64 : decode cX6_strike 64 = .ok (.aload_n 0, 1) := by decide +kernel
theorem dX6_strike_65 : decode cX6_strike 65 = .ok (.getfield 138, 3) := by decide +kernel
theorem dX6_strike_68 : decode cX6_strike 68 = .ok (.invokevirtual 220, 3) := by decide +kernel
theorem dX6_strike_71 : decode cX6_strike 71 = .ok (.iload 4, 2) := by decide +kernel
theorem dX6_strike_73 : decode cX6_strike 73 = .ok (.iload_n 3, 1) := by decide +kernel
theorem dX6_strike_74 : decode cX6_strike 74 = .ok (.isub, 1) := by decide +kernel
theorem dX6_strike_75 : decode cX6_strike 75 = .ok (.ireturn, 1) := by decide +kernel
theorem dX6_seen_0 : decode cX6_seen 0 = .ok (.iload_n 1, 1) := by decide +kernel
theorem dX6_seen_1 : decode cX6_seen 1 = .ok (.iconst 5, 1) := by decide +kernel
theorem dX6_seen_2 : decode cX6_seen 2 = .ok (.invokestatic 78, 3) := by decide +kernel
theorem dX6_seen_5 : decode cX6_seen 5 = .ok (.ifCond .eq 13, 3) := by decide +kernel
theorem dX6_seen_8 : decode cX6_seen 8 = .ok (.iload_n 2, 1) := by decide +kernel
theorem dX6_seen_9 : decode cX6_seen 9 = .ok (.sipush 999, 3) := by decide +kernel
theorem dX6_seen_12 : decode cX6_seen 12 = .ok (.invokestatic 78, 3) := by decide +kernel
theorem dX6_seen_15 : decode cX6_seen 15 = .ok (.ifCond .ne 6, 3) := by decide +kernel
theorem dX6_seen_18 : decode cX6_seen 18 = .ok (.bipush (-2), 2) := by decide +kernel
theorem dX6_seen_20 : decode cX6_seen 20 = .ok (.ireturn, 1) := by decide +kernel
theorem dX6_seen_21 : decode cX6_seen 21 = .ok (.aload_n 0, 1) := by decide +kernel
theorem dX6_seen_22 : decode cX6_seen 22 = .ok (.getfield 61, 3) := by decide +kernel
theorem dX6_seen_25 : decode cX6_seen 25 = .ok (.invokevirtual 144, 3) := by decide +kernel
theorem dX6_seen_28 : decode cX6_seen 28 = .ok (.ifCond .eq 8, 3) := by decide +kernel
theorem dX6_seen_31 : decode cX6_seen 31 = .ok (.bipush (-4), 2) := by decide +kernel
theorem dX6_seen_33 : decode cX6_seen 33 = .ok (.goto 12, 3) := by decide +kernel
theorem dX6_seen_36 : decode cX6_seen 36 = .ok (.aload_n 0, 1) := by decide +kernel
theorem dX6_seen_37 : decode cX6_seen 37 = .ok (.getfield 61, 3) := by decide +kernel
theorem dX6_seen_40 : decode cX6_seen 40 = .ok (.iload_n 1, 1) := by decide +kernel
theorem dX6_seen_41 : decode cX6_seen 41 = .ok (.iload_n 2, 1) := by decide +kernel
theorem dX6_seen_42 : decode cX6_seen 42 = .ok (.invokevirtual 145, 3) := by decide +kernel
theorem dX6_seen_45 : decode cX6_seen 45 = .ok (.ireturn, 1) := by decide +kernel
theorem dX6_forget_0 : decode cX6_forget 0 = .ok (.aload_n 0, 1) := by decide +kernel
theorem dX6_forget_1 : decode cX6_forget 1 = .ok (.getfield 61, 3) := by decide +kernel
theorem dX6_forget_4 : decode cX6_forget 4 = .ok (.getfield 148, 3) := by decide +kernel
theorem dX6_forget_7 : decode cX6_forget 7 = .ok (.istore_n 1, 1) := by decide +kernel
theorem dX6_forget_8 : decode cX6_forget 8 = .ok (.aload_n 0, 1) := by decide +kernel
theorem dX6_forget_9 : decode cX6_forget 9 = .ok (.getfield 61, 3) := by decide +kernel
theorem dX6_forget_12 : decode cX6_forget 12 = .ok (.iconst 0, 1) := by decide +kernel
theorem dX6_forget_13 : decode cX6_forget 13 = .ok (.putfield 148, 3) := by decide +kernel
theorem dX6_forget_16 : decode cX6_forget 16 = .ok (.iload_n 1, 1) := by decide +kernel
theorem dX6_forget_17 : decode cX6_forget 17 = .ok (.ireturn, 1) := by decide +kernel
theorem dX6_sound_0 : decode cX6_sound 0 = .ok (.iload_n 1, 1) := by decide +kernel
theorem dX6_sound_1 : decode cX6_sound 1 = .ok (.iconst 1, 1) := by decide +kernel
theorem dX6_sound_2 : decode cX6_sound 2 = .ok (.invokestatic 78, 3) := by decide +kernel
theorem dX6_sound_5 : decode cX6_sound 5 = .ok (.ifCond .ne 6, 3) := by decide +kernel
theorem dX6_sound_8 : decode cX6_sound 8 = .ok (.bipush (-2), 2) := by decide +kernel
theorem dX6_sound_10 : decode cX6_sound 10 = .ok (.ireturn, 1) := by decide +kernel
theorem dX6_sound_11 : decode cX6_sound 11 = .ok (.aload_n 0, 1) := by decide +kernel
theorem dX6_sound_12 : decode cX6_sound 12 = .ok (.getfield 69, 3) := by decide +kernel
theorem dX6_sound_15 : decode cX6_sound 15 = .ok (.invokevirtual 223, 3) := by decide +kernel
theorem dX6_sound_18 : decode cX6_sound 18 = .ok (.iload_n 1, 1) := by decide +kernel
theorem dX6_sound_19 : decode cX6_sound 19 = .ok (.ifCond .ne 13, 3) := by decide +kernel
theorem dX6_sound_22 : decode cX6_sound 22 = .ok (.aload_n 0, 1) := by decide +kernel
theorem dX6_sound_23 : decode cX6_sound 23 = .ok (.getfield 69, 3) := by decide +kernel
theorem dX6_sound_26 : decode cX6_sound 26 = .ok (.getfield 226, 3) := by decide +kernel
theorem dX6_sound_29 : decode cX6_sound 29 = .ok (.goto 10, 3) := by decide +kernel
theorem dX6_sound_32 : decode cX6_sound 32 = .ok (.aload_n 0, 1) := by decide +kernel
theorem dX6_sound_33 : decode cX6_sound 33 = .ok (.getfield 69, 3) := by decide +kernel
theorem dX6_sound_36 : decode cX6_sound 36 = .ok (.getfield 229, 3) := by decide +kernel
theorem dX6_sound_39 : decode cX6_sound 39 = .ok (.ireturn, 1) := by decide +kernel
theorem dX6_press_0 : decode cX6_press 0 = .ok (.aload_n 0, 1) := by decide +kernel
theorem dX6_press_1 : decode cX6_press 1 = .ok (.getfield 69, 3) := by decide +kernel
theorem dX6_press_4 : decode cX6_press 4 = .ok (.invokevirtual 223, 3) := by decide +kernel
theorem dX6_press_7 : decode cX6_press 7 = .ok (.aload_n 0, 1) := by decide +kernel
theorem dX6_press_8 : decode cX6_press 8 = .ok (.getfield 69, 3) := by decide +kernel
theorem dX6_press_11 : decode cX6_press 11 = .ok (.invokevirtual 232, 3) := by decide +kernel
theorem dX6_press_14 : decode cX6_press 14 = .ok (.ireturn, 1) := by decide +kernel
theorem dX6_fair_0 : decode cX6_fair 0 = .ok (.aload_n 0, 1) := by decide +kernel
theorem dX6_fair_1 : decode cX6_fair 1 = .ok (.getfield 53, 3) := by decide +kernel
theorem dX6_fair_4 : decode cX6_fair 4 = .ok (.iload_n 1, 1) := by decide +kernel
theorem dX6_fair_5 : decode cX6_fair 5 = .ok (.invokevirtual 111, 3) := by decide +kernel
theorem dX6_fair_8 : decode cX6_fair 8 = .ok (.ifCond .eq 11, 3) := by decide +kernel
theorem dX6_fair_11 : decode cX6_fair 11 = .ok (.iload_n 2, 1) := by decide +kernel
theorem dX6_fair_12 : decode cX6_fair 12 = .ok (.iconst 1, 1) := by decide +kernel
theorem dX6_fair_13 : decode cX6_fair 13 = .ok (.invokestatic 78, 3) := by decide +kernel
theorem dX6_fair_16 : decode cX6_fair 16 = .ok (.ifCond .ne 7, 3) := by decide +kernel
theorem dX6_fair_19 : decode cX6_fair 19 = .ok (.ldc2_w 235, 3) := by decide +kernel
theorem dX6_fair_22 : decode cX6_fair 22 = .ok (.lreturn, 1) := by decide +kernel
theorem dX6_fair_23 : decode cX6_fair 23 = .ok (.iconst 0, 1) := by decide +kernel
theorem dX6_fair_24 : decode cX6_fair 24 = .ok (.istore_n 3, 1) := by decide +kernel
theorem dX6_fair_25 : decode cX6_fair 25 = .ok (.iconst 0, 1) := by decide +kernel
theorem dX6_fair_26 : decode cX6_fair 26 = .ok (.istore 4, 2) := by decide +kernel
theorem dX6_fair_28 : decode cX6_fair 28 = .ok (.iload 4, 2) := by decide +kernel
theorem dX6_fair_30 : decode cX6_fair 30 = .ok (.aload_n 0, 1) := by decide +kernel
theorem dX6_fair_31 : decode cX6_fair 31 = .ok (.getfield 53, 3) := by decide +kernel
theorem dX6_fair_34 : decode cX6_fair 34 = .ok (.getfield 200, 3) := by decide +kernel
theorem dX6_fair_37 : decode cX6_fair 37 = .ok (.if_icmp .ge 33, 3) := by decide +kernel
theorem dX6_fair_40 : decode cX6_fair 40 = .ok (.iload_n 3, 1) := by decide +kernel
theorem dX6_fair_41 : decode cX6_fair 41 = .ok (.aload_n 0, 1) := by decide +kernel
theorem dX6_fair_42 : decode cX6_fair 42 = .ok (.getfield 53, 3) := by decide +kernel
theorem dX6_fair_45 : decode cX6_fair 45 = .ok (.getfield 108, 3) := by decide +kernel
theorem dX6_fair_48 : decode cX6_fair 48 = .ok (.iload 4, 2) := by decide +kernel
theorem dX6_fair_50 : decode cX6_fair 50 = .ok (.iaload, 1) := by decide +kernel
theorem dX6_fair_51 : decode cX6_fair 51 = .ok (.aload_n 0, 1) := by decide +kernel
theorem dX6_fair_52 : decode cX6_fair 52 = .ok (.getfield 53, 3) := by decide +kernel
theorem dX6_fair_55 : decode cX6_fair 55 = .ok (.iload 4, 2) := by decide +kernel
theorem dX6_fair_57 : decode cX6_fair 57 = .ok (.iload_n 1, 1) := by decide +kernel
theorem dX6_fair_58 : decode cX6_fair 58 = .ok (.invokevirtual 173, 3) := by decide +kernel
theorem dX6_fair_61 : decode cX6_fair 61 = .ok (.imul, 1) := by decide +kernel
theorem dX6_fair_62 : decode cX6_fair 62 = .ok (.iadd, 1) := by decide +kernel
theorem dX6_fair_63 : decode cX6_fair 63 = .ok (.istore_n 3, 1) := by decide +kernel
theorem dX6_fair_64 : decode cX6_fair 64 = .ok (.iinc 4 1, 3) := by decide +kernel
theorem dX6_fair_67 : decode cX6_fair 67 = .ok (.goto (-39), 3) := by decide +kernel
theorem dX6_fair_70 : decode cX6_fair 70 = .ok (.iload_n 3, 1) := by decide +kernel
theorem dX6_fair_71 : decode cX6_fair 71 = .ok (.bipush 16, 2) := by decide +kernel
theorem dX6_fair_73 : decode cX6_fair 73 = .ok (.iload_n 2, 1) := by decide +kernel
theorem dX6_fair_74 : decode cX6_fair 74 = .ok (.invokestatic 237, 3) := by decide +kernel
theorem dX6_fair_77 : decode cX6_fair 77 = .ok (.lreturn, 1) := by decide +kernel
theorem dX6_storm_0 : decode cX6_storm 0 = .ok (.aload_n 0, 1) := by decide +kernel
theorem dX6_storm_1 : decode cX6_storm 1 = .ok (.getfield 53, 3) := by decide +kernel
theorem dX6_storm_4 : decode cX6_storm 4 = .ok (.iload_n 1, 1) := by decide +kernel
theorem dX6_storm_5 : decode cX6_storm 5 = .ok (.invokevirtual 111, 3) := by decide +kernel
theorem dX6_storm_8 : decode cX6_storm 8 = .ok (.ifCond .eq 20, 3) := by decide +kernel
theorem dX6_storm_11 : decode cX6_storm 11 = .ok (.iload_n 2, 1) := by decide +kernel
theorem dX6_storm_12 : decode cX6_storm 12 = .ok (.bipush 99, 2) := by decide +kernel
theorem dX6_storm_14 : decode cX6_storm 14 = .ok (.invokestatic 78, 3) := by decide +kernel
theorem dX6_storm_17 : decode cX6_storm 17 = .ok (.ifCond .eq 11, 3) := by decide +kernel
theorem dX6_storm_20 : decode cX6_storm 20 = .ok (.iload_n 3, 1) := by decide +kernel
theorem dX6_storm_21 : decode cX6_storm 21 = .ok (.iconst 1, 1) := by decide +kernel
theorem dX6_storm_22 : decode cX6_storm 22 = .ok (.invokestatic 78, 3) := by decide +kernel
theorem dX6_storm_25 : decode cX6_storm 25 = .ok (.ifCond .ne 7, 3) := by decide +kernel
theorem dX6_storm_28 : decode cX6_storm 28 = .ok (.ldc2_w 235, 3) := by decide +kernel
theorem dX6_storm_31 : decode cX6_storm 31 = .ok (.lreturn, 1) := by decide +kernel
theorem dX6_storm_32 : decode cX6_storm 32 = .ok (.iconst 0, 1) := by decide +kernel
theorem dX6_storm_33 : decode cX6_storm 33 = .ok (.istore 4, 2) := by decide +kernel
theorem dX6_storm_35 : decode cX6_storm 35 = .ok (.iconst 0, 1) := by decide +kernel
theorem dX6_storm_36 : decode cX6_storm 36 = .ok (.istore 5, 2) := by decide +kernel
theorem dX6_storm_38 : decode cX6_storm 38 = .ok (.iconst 0, 1) := by decide +kernel
theorem dX6_storm_39 : decode cX6_storm 39 = .ok (.istore 6, 2) := by decide +kernel
theorem dX6_storm_41 : decode cX6_storm 41 = .ok (.iload 6, 2) := by decide +kernel
theorem dX6_storm_43 : decode cX6_storm 43 = .ok (.iconst 1, 1) := by decide +kernel
theorem dX6_storm_44 : decode cX6_storm 44 = .ok (.aload_n 0, 1) := by decide +kernel
theorem dX6_storm_45 : decode cX6_storm 45 = .ok (.getfield 53, 3) := by decide +kernel
theorem dX6_storm_48 : decode cX6_storm 48 = .ok (.getfield 200, 3) := by decide +kernel
theorem dX6_storm_51 : decode cX6_storm 51 = .ok (.ishl, 1) := by decide +kernel
theorem dX6_storm_52 : decode cX6_storm 52 = .ok (.if_icmp .ge 65, 3) := by decide +kernel
theorem dX6_storm_55 : decode cX6_storm 55 = .ok (.aload_n 0, 1) := by decide +kernel
theorem dX6_storm_56 : decode cX6_storm 56 = .ok (.getfield 53, 3) := by decide +kernel
theorem dX6_storm_59 : decode cX6_storm 59 = .ok (.iload 6, 2) := by decide +kernel
theorem dX6_storm_61 : decode cX6_storm 61 = .ok (.invokevirtual 241, 3) := by decide +kernel
theorem dX6_storm_64 : decode cX6_storm 64 = .ok (.istore 7, 2) := by decide +kernel
theorem dX6_storm_66 : decode cX6_storm 66 = .ok (.iload 5, 2) := by decide +kernel
theorem dX6_storm_68 : decode cX6_storm 68 = .ok (.iload 7, 2) := by decide +kernel
theorem dX6_storm_70 : decode cX6_storm 70 = .ok (.iadd, 1) := by decide +kernel
theorem dX6_storm_71 : decode cX6_storm 71 = .ok (.istore 5, 2) := by decide +kernel
theorem dX6_storm_73 : decode cX6_storm 73 = .ok (.iload 7, 2) := by decide +kernel
theorem dX6_storm_75 : decode cX6_storm 75 = .ok (.ifCond .le 36, 3) := by decide +kernel
theorem dX6_storm_78 : decode cX6_storm 78 = .ok (.aload_n 0, 1) := by decide +kernel
theorem dX6_storm_79 : decode cX6_storm 79 = .ok (.getfield 57, 3) := by decide +kernel
theorem dX6_storm_82 : decode cX6_storm 82 = .ok (.iload 6, 2) := by decide +kernel
theorem dX6_storm_84 : decode cX6_storm 84 = .ok (.invokevirtual 244, 3) := by decide +kernel
theorem dX6_storm_87 : decode cX6_storm 87 = .ok (.iload 4, 2) := by decide +kernel
theorem dX6_storm_89 : decode cX6_storm 89 = .ok (.aload_n 0, 1) := by decide +kernel
theorem dX6_storm_90 : decode cX6_storm 90 = .ok (.getfield 57, 3) := by decide +kernel
theorem dX6_storm_93 : decode cX6_storm 93 = .ok (.getfield 183, 3) := by decide +kernel
theorem dX6_storm_96 : decode cX6_storm 96 = .ok (.iload_n 1, 1) := by decide +kernel
theorem dX6_storm_97 : decode cX6_storm 97 = .ok (.iaload, 1) := by decide +kernel
theorem dX6_storm_98 : decode cX6_storm 98 = .ok (.iload_n 2, 1) := by decide +kernel
theorem dX6_storm_99 : decode cX6_storm 99 = .ok (.if_icmp .lt 8, 3) := by decide +kernel
theorem dX6_storm_102 : decode cX6_storm 102 = .ok (.iload 7, 2) := by decide +kernel
theorem dX6_storm_104 : decode cX6_storm 104 = .ok (.goto 4, 3) := by decide +kernel
theorem dX6_storm_107 : decode cX6_storm 107 = .ok (.iconst 0, 1) := by decide +kernel
theorem dX6_storm_108 : decode cX6_storm 108 = .ok (.iadd, 1) := by decide +kernel
theorem dX6_storm_109 : decode cX6_storm 109 = .ok (.istore 4, 2) := by decide +kernel
theorem dX6_storm_111 : decode cX6_storm 111 = .ok (.iinc 6 1, 3) := by decide +kernel
theorem dX6_storm_114 : decode cX6_storm 114 = .ok (.goto (-73), 3) := by decide +kernel
theorem dX6_storm_117 : decode cX6_storm 117 = .ok (.iload 4, 2) := by decide +kernel
theorem dX6_storm_119 : decode cX6_storm 119 = .ok (.iload 5, 2) := by decide +kernel
theorem dX6_storm_121 : decode cX6_storm 121 = .ok (.iload_n 3, 1) := by decide +kernel
theorem dX6_storm_122 : decode cX6_storm 122 = .ok (.invokestatic 237, 3) := by decide +kernel
theorem dX6_storm_125 : decode cX6_storm 125 = .ok (.lreturn, 1) := by decide +kernel
theorem dX6_years_0 : decode cX6_years 0 = .ok (.iload_n 2, 1) := by decide +kernel
theorem dX6_years_1 : decode cX6_years 1 = .ok (.iconst 1, 1) := by decide +kernel
theorem dX6_years_2 : decode cX6_years 2 = .ok (.if_icmp .lt 29, 3) := by decide +kernel
theorem dX6_years_5 : decode cX6_years 5 = .ok (.iload_n 2, 1) := by decide +kernel
theorem dX6_years_6 : decode cX6_years 6 = .ok (.bipush 30, 2) := by decide +kernel
theorem dX6_years_8 : decode cX6_years 8 = .ok (.if_icmp .gt 23, 3) := by decide +kernel
theorem dX6_years_11 : decode cX6_years 11 = .ok (.aload_n 0, 1) := by decide +kernel
theorem dX6_years_12 : decode cX6_years 12 = .ok (.getfield 53, 3) := by decide +kernel
theorem dX6_years_15 : decode cX6_years 15 = .ok (.iload_n 3, 1) := by decide +kernel
theorem dX6_years_16 : decode cX6_years 16 = .ok (.invokevirtual 111, 3) := by decide +kernel
theorem dX6_years_19 : decode cX6_years 19 = .ok (.ifCond .eq 12, 3) := by decide +kernel
theorem dX6_years_22 : decode cX6_years 22 = .ok (.iload 4, 2) := by decide +kernel
theorem dX6_years_24 : decode cX6_years 24 = .ok (.iconst 1, 1) := by decide +kernel
theorem dX6_years_25 : decode cX6_years 25 = .ok (.invokestatic 78, 3) := by decide +kernel
theorem dX6_years_28 : decode cX6_years 28 = .ok (.ifCond .ne 6, 3) := by decide +kernel
theorem dX6_years_31 : decode cX6_years 31 = .ok (.bipush (-2), 2) := by decide +kernel
theorem dX6_years_33 : decode cX6_years 33 = .ok (.ireturn, 1) := by decide +kernel
theorem dX6_years_34 : decode cX6_years 34 = .ok (.aload_n 0, 1) := by decide +kernel
theorem dX6_years_35 : decode cX6_years 35 = .ok (.getfield 57, 3) := by decide +kernel
theorem dX6_years_38 : decode cX6_years 38 = .ok (.iload_n 1, 1) := by decide +kernel
theorem dX6_years_39 : decode cX6_years 39 = .ok (.iload_n 2, 1) := by decide +kernel
theorem dX6_years_40 : decode cX6_years 40 = .ok (.invokevirtual 247, 3) := by decide +kernel
theorem dX6_years_43 : decode cX6_years 43 = .ok (.iload 4, 2) := by decide +kernel
theorem dX6_years_45 : decode cX6_years 45 = .ok (.ifCond .ne 15, 3) := by decide +kernel
theorem dX6_years_48 : decode cX6_years 48 = .ok (.aload_n 0, 1) := by decide +kernel
theorem dX6_years_49 : decode cX6_years 49 = .ok (.getfield 57, 3) := by decide +kernel
theorem dX6_years_52 : decode cX6_years 52 = .ok (.getfield 183, 3) := by decide +kernel
theorem dX6_years_55 : decode cX6_years 55 = .ok (.iload_n 3, 1) := by decide +kernel
theorem dX6_years_56 : decode cX6_years 56 = .ok (.iaload, 1) := by decide +kernel
theorem dX6_years_57 : decode cX6_years 57 = .ok (.goto 13, 3) := by decide +kernel
theorem dX6_years_60 : decode cX6_years 60 = .ok (.aload_n 0, 1) := by decide +kernel
theorem dX6_years_61 : decode cX6_years 61 = .ok (.getfield 57, 3) := by decide +kernel
theorem dX6_years_64 : decode cX6_years 64 = .ok (.getfield 189, 3) := by decide +kernel
theorem dX6_years_67 : decode cX6_years 67 = .ok (.invokestatic 212, 3) := by decide +kernel
theorem dX6_years_70 : decode cX6_years 70 = .ok (.ireturn, 1) := by decide +kernel
theorem dX6_sheet_0 : decode cX6_sheet 0 = .ok (.aload_n 0, 1) := by decide +kernel
theorem dX6_sheet_1 : decode cX6_sheet 1 = .ok (.iload_n 1, 1) := by decide +kernel
theorem dX6_sheet_2 : decode cX6_sheet 2 = .ok (.invokevirtual 151, 3) := by decide +kernel
theorem dX6_sheet_5 : decode cX6_sheet 5 = .ok (.astore 4, 2) := by decide +kernel
theorem dX6_sheet_7 : decode cX6_sheet 7 = .ok (.aload 4, 2) := by decide +kernel
theorem dX6_sheet_9 : decode cX6_sheet 9 = .ok (.ifnull 16, 3) := by decide +kernel
theorem dX6_sheet_12 : decode cX6_sheet 12 = .ok (.iload_n 2, 1) := by decide +kernel
theorem dX6_sheet_13 : decode cX6_sheet 13 = .ok (.invokestatic 251, 3) := by decide +kernel
theorem dX6_sheet_16 : decode cX6_sheet 16 = .ok (.ifCond .eq 9, 3) := by decide +kernel
theorem dX6_sheet_19 : decode cX6_sheet 19 = .ok (.iload_n 3, 1) := by decide +kernel
theorem dX6_sheet_20 : decode cX6_sheet 20 = .ok (.bipush 60, 2) := by decide +kernel
theorem dX6_sheet_22 : decode cX6_sheet 22 = .ok (.if_icmp .le 6, 3) := by decide +kernel
theorem dX6_sheet_25 : decode cX6_sheet 25 = .ok (.bipush (-2), 2) := by decide +kernel
theorem dX6_sheet_27 : decode cX6_sheet 27 = .ok (.ireturn, 1) := by decide +kernel
theorem dX6_sheet_28 : decode cX6_sheet 28 = .ok (.iload_n 3, 1) := by decide +kernel
theorem dX6_sheet_29 : decode cX6_sheet 29 = .ok (.ifCond .ge 9, 3) := by decide +kernel
theorem dX6_sheet_32 : decode cX6_sheet 32 = .ok (.aload_n 0, 1) := by decide +kernel
theorem dX6_sheet_33 : decode cX6_sheet 33 = .ok (.iconst 5, 1) := by decide +kernel
theorem dX6_sheet_34 : decode cX6_sheet 34 = .ok (.invokevirtual 159, 3) := by decide +kernel
theorem dX6_sheet_37 : decode cX6_sheet 37 = .ok (.ireturn, 1) := by decide +kernel
theorem dX6_sheet_38 : decode cX6_sheet 38 = .ok (.aload 4, 2) := by decide +kernel
theorem dX6_sheet_40 : decode cX6_sheet 40 = .ok (.iload_n 2, 1) := by decide +kernel
theorem dX6_sheet_41 : decode cX6_sheet 41 = .ok (.iload_n 3, 1) := by decide +kernel
theorem dX6_sheet_42 : decode cX6_sheet 42 = .ok (.invokevirtual 254, 3) := by decide +kernel
theorem dX6_sheet_45 : decode cX6_sheet 45 = .ok (.iload_n 3, 1) := by decide +kernel
theorem dX6_sheet_46 : decode cX6_sheet 46 = .ok (.ireturn, 1) := by decide +kernel
theorem dX6_lose_0 : decode cX6_lose 0 = .ok (.aload_n 0, 1) := by decide +kernel
theorem dX6_lose_1 : decode cX6_lose 1 = .ok (.iload_n 1, 1) := by decide +kernel
theorem dX6_lose_2 : decode cX6_lose 2 = .ok (.invokevirtual 151, 3) := by decide +kernel
theorem dX6_lose_5 : decode cX6_lose 5 = .ok (.astore_n 2, 1) := by decide +kernel
theorem dX6_lose_6 : decode cX6_lose 6 = .ok (.aload_n 2, 1) := by decide +kernel
theorem dX6_lose_7 : decode cX6_lose 7 = .ok (.ifnonnull 6, 3) := by decide +kernel
theorem dX6_lose_10 : decode cX6_lose 10 = .ok (.bipush (-2), 2) := by decide +kernel
theorem dX6_lose_12 : decode cX6_lose 12 = .ok (.ireturn, 1) := by decide +kernel
theorem dX6_lose_13 : decode cX6_lose 13 = .ok (.aload_n 2, 1) := by decide +kernel
theorem dX6_lose_14 : decode cX6_lose 14 = .ok (.getfield 155, 3) := by decide +kernel
theorem dX6_lose_17 : decode cX6_lose 17 = .ok (.ifCond .eq 9, 3) := by decide +kernel
theorem dX6_lose_20 : decode cX6_lose 20 = .ok (.aload_n 0, 1) := by decide +kernel
theorem dX6_lose_21 : decode cX6_lose 21 = .ok (.iconst 1, 1) := by decide +kernel
theorem dX6_lose_22 : decode cX6_lose 22 = .ok (.invokevirtual 159, 3) := by decide +kernel
theorem dX6_lose_25 : decode cX6_lose 25 = .ok (.ireturn, 1) := by decide +kernel
theorem dX6_lose_26 : decode cX6_lose 26 = .ok (.aload_n 2, 1) := by decide +kernel
theorem dX6_lose_27 : decode cX6_lose 27 = .ok (.iconst 1, 1) := by decide +kernel
theorem dX6_lose_28 : decode cX6_lose 28 = .ok (.putfield 155, 3) := by decide +kernel
theorem dX6_lose_31 : decode cX6_lose 31 = .ok (.aload_n 2, 1) := by decide +kernel
theorem dX6_lose_32 : decode cX6_lose 32 = .ok (.getfield 163, 3) := by decide +kernel
theorem dX6_lose_35 : decode cX6_lose 35 = .ok (.ireturn, 1) := by decide +kernel
theorem dX6_lay_0 : decode cX6_lay 0 = .ok (.aload_n 0, 1) := by decide +kernel
theorem dX6_lay_1 : decode cX6_lay 1 = .ok (.iload_n 1, 1) := by decide +kernel
theorem dX6_lay_2 : decode cX6_lay 2 = .ok (.invokevirtual 151, 3) := by decide +kernel
theorem dX6_lay_5 : decode cX6_lay 5 = .ok (.astore 5, 2) := by decide +kernel
theorem dX6_lay_7 : decode cX6_lay 7 = .ok (.aload 5, 2) := by decide +kernel
theorem dX6_lay_9 : decode cX6_lay 9 = .ok (.ifnull 10, 3) := by decide +kernel
theorem dX6_lay_12 : decode cX6_lay 12 = .ok (.iload_n 2, 1) := by decide +kernel
theorem dX6_lay_13 : decode cX6_lay 13 = .ok (.invokestatic 251, 3) := by decide +kernel
theorem dX6_lay_16 : decode cX6_lay 16 = .ok (.ifCond .ne 6, 3) := by decide +kernel
theorem dX6_lay_19 : decode cX6_lay 19 = .ok (.bipush (-2), 2) := by decide +kernel
theorem dX6_lay_21 : decode cX6_lay 21 = .ok (.ireturn, 1) := by decide +kernel
theorem dX6_lay_22 : decode cX6_lay 22 = .ok (.aload 5, 2) := by decide +kernel
theorem dX6_lay_24 : decode cX6_lay 24 = .ok (.iload_n 2, 1) := by decide +kernel
theorem dX6_lay_25 : decode cX6_lay 25 = .ok (.iload_n 3, 1) := by decide +kernel
theorem dX6_lay_26 : decode cX6_lay 26 = .ok (.invokevirtual 257, 3) := by decide +kernel
theorem dX6_lay_29 : decode cX6_lay 29 = .ok (.istore 6, 2) := by decide +kernel
theorem dX6_lay_31 : decode cX6_lay 31 = .ok (.iload 6, 2) := by decide +kernel
theorem dX6_lay_33 : decode cX6_lay 33 = .ok (.ifCond .eq 10, 3) := by decide +kernel
theorem dX6_lay_36 : decode cX6_lay 36 = .ok (.aload_n 0, 1) := by decide +kernel
theorem dX6_lay_37 : decode cX6_lay 37 = .ok (.iload 6, 2) := by decide +kernel
theorem dX6_lay_39 : decode cX6_lay 39 = .ok (.invokevirtual 159, 3) := by decide +kernel
theorem dX6_lay_42 : decode cX6_lay 42 = .ok (.ireturn, 1) := by decide +kernel
theorem dX6_lay_43 : decode cX6_lay 43 = .ok (.aload 5, 2) := by decide +kernel
theorem dX6_lay_45 : decode cX6_lay 45 = .ok (.iload_n 3, 1) := by decide +kernel
theorem dX6_lay_46 : decode cX6_lay 46 = .ok (.iload 4, 2) := by decide +kernel
theorem dX6_lay_48 : decode cX6_lay 48 = .ok (.invokevirtual 260, 3) := by decide +kernel
theorem dX6_lay_51 : decode cX6_lay 51 = .ok (.iconst 1, 1) := by decide +kernel
theorem dX6_lay_52 : decode cX6_lay 52 = .ok (.ireturn, 1) := by decide +kernel
theorem dX6_get_0 : decode cX6_get 0 = .ok (.aload_n 0, 1) := by decide +kernel
theorem dX6_get_1 : decode cX6_get 1 = .ok (.iload_n 1, 1) := by decide +kernel
theorem dX6_get_2 : decode cX6_get 2 = .ok (.invokevirtual 151, 3) := by decide +kernel
theorem dX6_get_5 : decode cX6_get 5 = .ok (.astore 4, 2) := by decide +kernel
theorem dX6_get_7 : decode cX6_get 7 = .ok (.aload 4, 2) := by decide +kernel
theorem dX6_get_9 : decode cX6_get 9 = .ok (.ifnull 10, 3) := by decide +kernel
theorem dX6_get_12 : decode cX6_get 12 = .ok (.iload_n 2, 1) := by decide +kernel
theorem dX6_get_13 : decode cX6_get 13 = .ok (.invokestatic 251, 3) := by decide +kernel
theorem dX6_get_16 : decode cX6_get 16 = .ok (.ifCond .ne 7, 3) := by decide +kernel
theorem dX6_get_19 : decode cX6_get 19 = .ok (.ldc_w 263, 3) := by decide +kernel
theorem dX6_get_22 : decode cX6_get 22 = .ok (.ireturn, 1) := by decide +kernel
theorem dX6_get_23 : decode cX6_get 23 = .ok (.aload 4, 2) := by decide +kernel
theorem dX6_get_25 : decode cX6_get 25 = .ok (.iload_n 2, 1) := by decide +kernel
theorem dX6_get_26 : decode cX6_get 26 = .ok (.iload_n 3, 1) := by decide +kernel
theorem dX6_get_27 : decode cX6_get 27 = .ok (.invokevirtual 257, 3) := by decide +kernel
theorem dX6_get_30 : decode cX6_get 30 = .ok (.istore 5, 2) := by decide +kernel
theorem dX6_get_32 : decode cX6_get 32 = .ok (.iload 5, 2) := by decide +kernel
theorem dX6_get_34 : decode cX6_get 34 = .ok (.ifCond .eq 14, 3) := by decide +kernel
theorem dX6_get_37 : decode cX6_get 37 = .ok (.aload_n 0, 1) := by decide +kernel
theorem dX6_get_38 : decode cX6_get 38 = .ok (.iload 5, 2) := by decide +kernel
theorem dX6_get_40 : decode cX6_get 40 = .ok (.invokevirtual 159, 3) := by decide +kernel
theorem dX6_get_43 : decode cX6_get 43 = .ok (.pop, 1) := by decide +kernel
theorem dX6_get_44 : decode cX6_get 44 = .ok (.ldc_w 263, 3) := by decide +kernel
theorem dX6_get_47 : decode cX6_get 47 = .ok (.ireturn, 1) := by decide +kernel
theorem dX6_get_48 : decode cX6_get 48 = .ok (.aload 4, 2) := by decide +kernel
theorem dX6_get_50 : decode cX6_get 50 = .ok (.getfield 164, 3) := by decide +kernel
theorem dX6_get_53 : decode cX6_get 53 = .ok (.iload_n 3, 1) := by decide +kernel
theorem dX6_get_54 : decode cX6_get 54 = .ok (.iaload, 1) := by decide +kernel
theorem dX6_get_55 : decode cX6_get 55 = .ok (.ireturn, 1) := by decide +kernel
theorem dX6_copy_0 : decode cX6_copy 0 = .ok (.aload_n 0, 1) := by decide +kernel
theorem dX6_copy_1 : decode cX6_copy 1 = .ok (.iload_n 1, 1) := by decide +kernel
theorem dX6_copy_2 : decode cX6_copy 2 = .ok (.invokevirtual 151, 3) := by decide +kernel
theorem dX6_copy_5 : decode cX6_copy 5 = .ok (.astore 6, 2) := by decide +kernel
theorem dX6_copy_7 : decode cX6_copy 7 = .ok (.aload_n 0, 1) := by decide +kernel
theorem dX6_copy_8 : decode cX6_copy 8 = .ok (.iload_n 3, 1) := by decide +kernel
theorem dX6_copy_9 : decode cX6_copy 9 = .ok (.invokevirtual 151, 3) := by decide +kernel
theorem dX6_copy_12 : decode cX6_copy 12 = .ok (.astore 7, 2) := by decide +kernel
theorem dX6_copy_14 : decode cX6_copy 14 = .ok (.aload 6, 2) := by decide +kernel
theorem dX6_copy_16 : decode cX6_copy 16 = .ok (.ifnull 8, 3) := by decide +kernel
theorem dX6_copy_19 : decode cX6_copy 19 = .ok (.aload 7, 2) := by decide +kernel
theorem dX6_copy_21 : decode cX6_copy 21 = .ok (.ifnonnull 6, 3) := by decide +kernel
theorem dX6_copy_24 : decode cX6_copy 24 = .ok (.bipush (-2), 2) := by decide +kernel
theorem dX6_copy_26 : decode cX6_copy 26 = .ok (.ireturn, 1) := by decide +kernel
theorem dX6_copy_27 : decode cX6_copy 27 = .ok (.aload 6, 2) := by decide +kernel
theorem dX6_copy_29 : decode cX6_copy 29 = .ok (.getfield 155, 3) := by decide +kernel
theorem dX6_copy_32 : decode cX6_copy 32 = .ok (.ifCond .ne 11, 3) := by decide +kernel
theorem dX6_copy_35 : decode cX6_copy 35 = .ok (.aload 7, 2) := by decide +kernel
theorem dX6_copy_37 : decode cX6_copy 37 = .ok (.getfield 155, 3) := by decide +kernel
theorem dX6_copy_40 : decode cX6_copy 40 = .ok (.ifCond .eq 9, 3) := by decide +kernel
theorem dX6_copy_43 : decode cX6_copy 43 = .ok (.aload_n 0, 1) := by decide +kernel
theorem dX6_copy_44 : decode cX6_copy 44 = .ok (.iconst 1, 1) := by decide +kernel
theorem dX6_copy_45 : decode cX6_copy 45 = .ok (.invokevirtual 159, 3) := by decide +kernel
theorem dX6_copy_48 : decode cX6_copy 48 = .ok (.ireturn, 1) := by decide +kernel
theorem dX6_copy_49 : decode cX6_copy 49 = .ok (.aload 6, 2) := by decide +kernel
theorem dX6_copy_51 : decode cX6_copy 51 = .ok (.getfield 264, 3) := by decide +kernel
theorem dX6_copy_54 : decode cX6_copy 54 = .ok (.aload 7, 2) := by decide +kernel
theorem dX6_copy_56 : decode cX6_copy 56 = .ok (.getfield 264, 3) := by decide +kernel
theorem dX6_copy_59 : decode cX6_copy 59 = .ok (.if_icmp .eq 9, 3) := by decide +kernel
theorem dX6_copy_62 : decode cX6_copy 62 = .ok (.aload_n 0, 1) := by decide +kernel
theorem dX6_copy_63 : decode cX6_copy 63 = .ok (.iconst 4, 1) := by decide +kernel
theorem dX6_copy_64 : decode cX6_copy 64 = .ok (.invokevirtual 159, 3) := by decide +kernel
theorem dX6_copy_67 : decode cX6_copy 67 = .ok (.ireturn, 1) := by decide +kernel
theorem dX6_copy_68 : decode cX6_copy 68 = .ok (.aload 6, 2) := by decide +kernel
theorem dX6_copy_70 : decode cX6_copy 70 = .ok (.iload_n 2, 1) := by decide +kernel
theorem dX6_copy_71 : decode cX6_copy 71 = .ok (.iload 5, 2) := by decide +kernel
theorem dX6_copy_73 : decode cX6_copy 73 = .ok (.invokevirtual 267, 3) := by decide +kernel
theorem dX6_copy_76 : decode cX6_copy 76 = .ok (.ifCond .eq 15, 3) := by decide +kernel
theorem dX6_copy_79 : decode cX6_copy 79 = .ok (.aload 7, 2) := by decide +kernel
theorem dX6_copy_81 : decode cX6_copy 81 = .ok (.iload 4, 2) := by decide +kernel
theorem dX6_copy_83 : decode cX6_copy 83 = .ok (.iload 5, 2) := by decide +kernel
theorem dX6_copy_85 : decode cX6_copy 85 = .ok (.invokevirtual 267, 3) := by decide +kernel
theorem dX6_copy_88 : decode cX6_copy 88 = .ok (.ifCond .ne 9, 3) := by decide +kernel
theorem dX6_copy_91 : decode cX6_copy 91 = .ok (.aload_n 0, 1) := by decide +kernel
theorem dX6_copy_92 : decode cX6_copy 92 = .ok (.iconst 2, 1) := by decide +kernel
theorem dX6_copy_93 : decode cX6_copy 93 = .ok (.invokevirtual 159, 3) := by decide +kernel
theorem dX6_copy_96 : decode cX6_copy 96 = .ok (.ireturn, 1) := by decide +kernel
theorem dX6_copy_97 : decode cX6_copy 97 = .ok (.aload 6, 2) := by decide +kernel
theorem dX6_copy_99 : decode cX6_copy 99 = .ok (.getfield 164, 3) := by decide +kernel
theorem dX6_copy_102 : decode cX6_copy 102 = .ok (.iload_n 2, 1) := by decide +kernel
theorem dX6_copy_103 : decode cX6_copy 103 = .ok (.aload 7, 2) := by decide +kernel
theorem dX6_copy_105 : decode cX6_copy 105 = .ok (.getfield 164, 3) := by decide +kernel
theorem dX6_copy_108 : decode cX6_copy 108 = .ok (.iload 4, 2) := by decide +kernel
theorem dX6_copy_110 : decode cX6_copy 110 = .ok (.iload 5, 2) := by decide +kernel
theorem dX6_copy_112 : decode cX6_copy 112 = .ok (.invokestatic 270, 3) := by decide +kernel
theorem dX6_copy_115 : decode cX6_copy 115 = .ok (.iconst 1, 1) := by decide +kernel
theorem dX6_copy_116 : decode cX6_copy 116 = .ok (.ireturn, 1) := by decide +kernel
theorem dX6_write_0 : decode cX6_write 0 = .ok (.aload_n 0, 1) := by decide +kernel
theorem dX6_write_1 : decode cX6_write 1 = .ok (.iload_n 2, 1) := by decide +kernel
theorem dX6_write_2 : decode cX6_write 2 = .ok (.invokevirtual 151, 3) := by decide +kernel
theorem dX6_write_5 : decode cX6_write 5 = .ok (.astore_n 3, 1) := by decide +kernel
theorem dX6_write_6 : decode cX6_write 6 = .ok (.iload_n 1, 1) := by decide +kernel
theorem dX6_write_7 : decode cX6_write 7 = .ok (.invokestatic 176, 3) := by decide +kernel
theorem dX6_write_10 : decode cX6_write 10 = .ok (.ifCond .eq 7, 3) := by decide +kernel
theorem dX6_write_13 : decode cX6_write 13 = .ok (.aload_n 3, 1) := by decide +kernel
theorem dX6_write_14 : decode cX6_write 14 = .ok (.ifnonnull 6, 3) := by decide +kernel
theorem dX6_write_17 : decode cX6_write 17 = .ok (.bipush (-2), 2) := by decide +kernel
theorem dX6_write_19 : decode cX6_write 19 = .ok (.ireturn, 1) := by decide +kernel
theorem dX6_write_20 : decode cX6_write 20 = .ok (.aload_n 3, 1) := by decide +kernel
theorem dX6_write_21 : decode cX6_write 21 = .ok (.getfield 155, 3) := by decide +kernel
theorem dX6_write_24 : decode cX6_write 24 = .ok (.ifCond .eq 9, 3) := by decide +kernel
theorem dX6_write_27 : decode cX6_write 27 = .ok (.aload_n 0, 1) := by decide +kernel
theorem dX6_write_28 : decode cX6_write 28 = .ok (.iconst 1, 1) := by decide +kernel
theorem dX6_write_29 : decode cX6_write 29 = .ok (.invokevirtual 159, 3) := by decide +kernel
theorem dX6_write_32 : decode cX6_write 32 = .ok (.ireturn, 1) := by decide +kernel
theorem dX6_write_33 : decode cX6_write 33 = .ok (.aload_n 0, 1) := by decide +kernel
theorem dX6_write_34 : decode cX6_write 34 = .ok (.getfield 57, 3) := by decide +kernel
theorem dX6_write_37 : decode cX6_write 37 = .ok (.aload_n 0, 1) := by decide +kernel
theorem dX6_write_38 : decode cX6_write 38 = .ok (.getfield 35, 3) := by decide +kernel
theorem dX6_write_41 : decode cX6_write 41 = .ok (.iload_n 1, 1) := by decide +kernel
theorem dX6_write_42 : decode cX6_write 42 = .ok (.invokevirtual 179, 3) := by decide +kernel
theorem dX6_write_45 : decode cX6_write 45 = .ok (.aload_n 3, 1) := by decide +kernel
theorem dX6_write_46 : decode cX6_write 46 = .ok (.getfield 163, 3) := by decide +kernel
theorem dX6_write_49 : decode cX6_write 49 = .ok (.aload_n 0, 1) := by decide +kernel
theorem dX6_write_50 : decode cX6_write 50 = .ok (.getfield 53, 3) := by decide +kernel
theorem dX6_write_53 : decode cX6_write 53 = .ok (.getfield 206, 3) := by decide +kernel
theorem dX6_write_56 : decode cX6_write 56 = .ok (.invokestatic 276, 3) := by decide +kernel
theorem dX6_write_59 : decode cX6_write 59 = .ok (.istore 4, 2) := by decide +kernel
theorem dX6_write_61 : decode cX6_write 61 = .ok (.iconst 0, 1) := by decide +kernel
theorem dX6_write_62 : decode cX6_write 62 = .ok (.istore 5, 2) := by decide +kernel
theorem dX6_write_64 : decode cX6_write 64 = .ok (.iload 5, 2) := by decide +kernel
theorem dX6_write_66 : decode cX6_write 66 = .ok (.iload 4, 2) := by decide +kernel
theorem dX6_write_68 : decode cX6_write 68 = .ok (.if_icmp .ge 25, 3) := by decide +kernel
theorem dX6_write_71 : decode cX6_write 71 = .ok (.aload_n 3, 1) := by decide +kernel
theorem dX6_write_72 : decode cX6_write 72 = .ok (.iload 5, 2) := by decide +kernel
theorem dX6_write_74 : decode cX6_write 74 = .ok (.aload_n 0, 1) := by decide +kernel
theorem dX6_write_75 : decode cX6_write 75 = .ok (.getfield 57, 3) := by decide +kernel
theorem dX6_write_78 : decode cX6_write 78 = .ok (.getfield 183, 3) := by decide +kernel
theorem dX6_write_81 : decode cX6_write 81 = .ok (.iload 5, 2) := by decide +kernel
theorem dX6_write_83 : decode cX6_write 83 = .ok (.iaload, 1) := by decide +kernel
theorem dX6_write_84 : decode cX6_write 84 = .ok (.invokevirtual 260, 3) := by decide +kernel
theorem dX6_write_87 : decode cX6_write 87 = .ok (.iinc 5 1, 3) := by decide +kernel
theorem dX6_write_90 : decode cX6_write 90 = .ok (.goto (-26), 3) := by decide +kernel
theorem dX6_write_93 : decode cX6_write 93 = .ok (.iload 4, 2) := by decide +kernel
theorem dX6_write_95 : decode cX6_write 95 = .ok (.ireturn, 1) := by decide +kernel
theorem dX6_count_0 : decode cX6_count 0 = .ok (.iload_n 1, 1) := by decide +kernel
theorem dX6_count_1 : decode cX6_count 1 = .ok (.tableswitch 120 0 8 #[51, 59, 67, 75, 83, 91, 99, 107, 115], 51) := by decide +kernel
theorem dX6_count_52 : decode cX6_count 52 = .ok (.aload_n 0, 1) := by decide +kernel
theorem dX6_count_53 : decode cX6_count 53 = .ok (.getfield 53, 3) := by decide +kernel
theorem dX6_count_56 : decode cX6_count 56 = .ok (.getfield 200, 3) := by decide +kernel
theorem dX6_count_59 : decode cX6_count 59 = .ok (.ireturn, 1) := by decide +kernel
theorem dX6_count_60 : decode cX6_count 60 = .ok (.aload_n 0, 1) := by decide +kernel
theorem dX6_count_61 : decode cX6_count 61 = .ok (.getfield 53, 3) := by decide +kernel
theorem dX6_count_64 : decode cX6_count 64 = .ok (.getfield 206, 3) := by decide +kernel
theorem dX6_count_67 : decode cX6_count 67 = .ok (.ireturn, 1) := by decide +kernel
theorem dX6_count_68 : decode cX6_count 68 = .ok (.aload_n 0, 1) := by decide +kernel
theorem dX6_count_69 : decode cX6_count 69 = .ok (.getfield 53, 3) := by decide +kernel
theorem dX6_count_72 : decode cX6_count 72 = .ok (.getfield 281, 3) := by decide +kernel
theorem dX6_count_75 : decode cX6_count 75 = .ok (.ireturn, 1) := by decide +kernel
theorem dX6_count_76 : decode cX6_count 76 = .ok (.aload_n 0, 1) := by decide +kernel
theorem dX6_count_77 : decode cX6_count 77 = .ok (.getfield 16, 3) := by decide +kernel
theorem dX6_count_80 : decode cX6_count 80 = .ok (.getfield 92, 3) := by decide +kernel
theorem dX6_count_83 : decode cX6_count 83 = .ok (.ireturn, 1) := by decide +kernel
theorem dX6_count_84 : decode cX6_count 84 = .ok (.aload_n 0, 1) := by decide +kernel
theorem dX6_count_85 : decode cX6_count 85 = .ok (.getfield 22, 3) := by decide +kernel
theorem dX6_count_88 : decode cX6_count 88 = .ok (.getfield 92, 3) := by decide +kernel
theorem dX6_count_91 : decode cX6_count 91 = .ok (.ireturn, 1) := by decide +kernel
theorem dX6_count_92 : decode cX6_count 92 = .ok (.aload_n 0, 1) := by decide +kernel
theorem dX6_count_93 : decode cX6_count 93 = .ok (.getfield 27, 3) := by decide +kernel
theorem dX6_count_96 : decode cX6_count 96 = .ok (.getfield 92, 3) := by decide +kernel
theorem dX6_count_99 : decode cX6_count 99 = .ok (.ireturn, 1) := by decide +kernel
theorem dX6_count_100 : decode cX6_count 100 = .ok (.aload_n 0, 1) := by decide +kernel
theorem dX6_count_101 : decode cX6_count 101 = .ok (.getfield 35, 3) := by decide +kernel
theorem dX6_count_104 : decode cX6_count 104 = .ok (.getfield 148, 3) := by decide +kernel
theorem dX6_count_107 : decode cX6_count 107 = .ok (.ireturn, 1) := by decide +kernel
theorem dX6_count_108 : decode cX6_count 108 = .ok (.aload_n 0, 1) := by decide +kernel
theorem dX6_count_109 : decode cX6_count 109 = .ok (.getfield 61, 3) := by decide +kernel
theorem dX6_count_112 : decode cX6_count 112 = .ok (.getfield 148, 3) := by decide +kernel
theorem dX6_count_115 : decode cX6_count 115 = .ok (.ireturn, 1) := by decide +kernel
theorem dX6_count_116 : decode cX6_count 116 = .ok (.aload_n 0, 1) := by decide +kernel
theorem dX6_count_117 : decode cX6_count 117 = .ok (.getfield 284, 3) := by decide +kernel
theorem dX6_count_120 : decode cX6_count 120 = .ok (.ireturn, 1) := by decide +kernel
theorem dX6_count_121 : decode cX6_count 121 = .ok (.bipush (-2), 2) := by decide +kernel
theorem dX6_count_123 : decode cX6_count 123 = .ok (.ireturn, 1) := by decide +kernel
theorem dX6_digest_0 : decode cX6_digest 0 = .ok (.ldc2_w 287, 3) := by decide +kernel
theorem dX6_digest_3 : decode cX6_digest 3 = .ok (.lstore_n 1, 1) := by decide +kernel
theorem dX6_digest_4 : decode cX6_digest 4 = .ok (.iconst 0, 1) := by decide +kernel
theorem dX6_digest_5 : decode cX6_digest 5 = .ok (.istore_n 3, 1) := by decide +kernel
theorem dX6_digest_6 : decode cX6_digest 6 = .ok (.iload_n 3, 1) := by decide +kernel
theorem dX6_digest_7 : decode cX6_digest 7 = .ok (.bipush 7, 2) := by decide +kernel
theorem dX6_digest_9 : decode cX6_digest 9 = .ok (.if_icmp .gt 22, 3) := by decide +kernel
theorem dX6_digest_12 : decode cX6_digest 12 = .ok (.ldc2_w 289, 3) := by decide +kernel
theorem dX6_digest_15 : decode cX6_digest 15 = .ok (.lload_n 1, 1) := by decide +kernel
theorem dX6_digest_16 : decode cX6_digest 16 = .ok (.lmul, 1) := by decide +kernel
theorem dX6_digest_17 : decode cX6_digest 17 = .ok (.aload_n 0, 1) := by decide +kernel
theorem dX6_digest_18 : decode cX6_digest 18 = .ok (.iload_n 3, 1) := by decide +kernel
theorem dX6_digest_19 : decode cX6_digest 19 = .ok (.invokevirtual 291, 3) := by decide +kernel
theorem dX6_digest_22 : decode cX6_digest 22 = .ok (.i2l, 1) := by decide +kernel
theorem dX6_digest_23 : decode cX6_digest 23 = .ok (.ladd, 1) := by decide +kernel
theorem dX6_digest_24 : decode cX6_digest 24 = .ok (.lstore_n 1, 1) := by decide +kernel
theorem dX6_digest_25 : decode cX6_digest 25 = .ok (.iinc 3 1, 3) := by decide +kernel
theorem dX6_digest_28 : decode cX6_digest 28 = .ok (.goto (-22), 3) := by decide +kernel
theorem dX6_digest_31 : decode cX6_digest 31 = .ok (.iconst 0, 1) := by decide +kernel
theorem dX6_digest_32 : decode cX6_digest 32 = .ok (.istore_n 3, 1) := by decide +kernel
theorem dX6_digest_33 : decode cX6_digest 33 = .ok (.iload_n 3, 1) := by decide +kernel
theorem dX6_digest_34 : decode cX6_digest 34 = .ok (.iconst 2, 1) := by decide +kernel
theorem dX6_digest_35 : decode cX6_digest 35 = .ok (.if_icmp .gt 22, 3) := by decide +kernel
theorem dX6_digest_38 : decode cX6_digest 38 = .ok (.ldc2_w 289, 3) := by decide +kernel
theorem dX6_digest_41 : decode cX6_digest 41 = .ok (.lload_n 1, 1) := by decide +kernel
theorem dX6_digest_42 : decode cX6_digest 42 = .ok (.lmul, 1) := by decide +kernel
theorem dX6_digest_43 : decode cX6_digest 43 = .ok (.aload_n 0, 1) := by decide +kernel
theorem dX6_digest_44 : decode cX6_digest 44 = .ok (.iload_n 3, 1) := by decide +kernel
theorem dX6_digest_45 : decode cX6_digest 45 = .ok (.invokevirtual 294, 3) := by decide +kernel
theorem dX6_digest_48 : decode cX6_digest 48 = .ok (.i2l, 1) := by decide +kernel
theorem dX6_digest_49 : decode cX6_digest 49 = .ok (.ladd, 1) := by decide +kernel
theorem dX6_digest_50 : decode cX6_digest 50 = .ok (.lstore_n 1, 1) := by decide +kernel
theorem dX6_digest_51 : decode cX6_digest 51 = .ok (.iinc 3 1, 3) := by decide +kernel
theorem dX6_digest_54 : decode cX6_digest 54 = .ok (.goto (-21), 3) := by decide +kernel
theorem dX6_digest_57 : decode cX6_digest 57 = .ok (.iconst 0, 1) := by decide +kernel
theorem dX6_digest_58 : decode cX6_digest 58 = .ok (.istore_n 3, 1) := by decide +kernel
theorem dX6_digest_59 : decode cX6_digest 59 = .ok (.iload_n 3, 1) := by decide +kernel
theorem dX6_digest_60 : decode cX6_digest 60 = .ok (.aload_n 0, 1) := by decide +kernel
theorem dX6_digest_61 : decode cX6_digest 61 = .ok (.getfield 53, 3) := by decide +kernel
theorem dX6_digest_64 : decode cX6_digest 64 = .ok (.getfield 200, 3) := by decide +kernel
theorem dX6_digest_67 : decode cX6_digest 67 = .ok (.if_icmp .ge 16, 3) := by decide +kernel
theorem dX6_digest_70 : decode cX6_digest 70 = .ok (.aload_n 0, 1) := by decide +kernel
theorem dX6_digest_71 : decode cX6_digest 71 = .ok (.lload_n 1, 1) := by decide +kernel
theorem dX6_digest_72 : decode cX6_digest 72 = .ok (.iload_n 3, 1) := by decide +kernel
theorem dX6_digest_73 : decode cX6_digest 73 = .ok (.invokevirtual 297, 3) := by decide +kernel
theorem dX6_digest_76 : decode cX6_digest 76 = .ok (.lstore_n 1, 1) := by decide +kernel
theorem dX6_digest_77 : decode cX6_digest 77 = .ok (.iinc 3 1, 3) := by decide +kernel
theorem dX6_digest_80 : decode cX6_digest 80 = .ok (.goto (-21), 3) := by decide +kernel
theorem dX6_digest_83 : decode cX6_digest 83 = .ok (.iconst 0, 1) := by decide +kernel
theorem dX6_digest_84 : decode cX6_digest 84 = .ok (.istore_n 3, 1) := by decide +kernel
theorem dX6_digest_85 : decode cX6_digest 85 = .ok (.iload_n 3, 1) := by decide +kernel
theorem dX6_digest_86 : decode cX6_digest 86 = .ok (.aload_n 0, 1) := by decide +kernel
theorem dX6_digest_87 : decode cX6_digest 87 = .ok (.getfield 53, 3) := by decide +kernel
theorem dX6_digest_90 : decode cX6_digest 90 = .ok (.getfield 206, 3) := by decide +kernel
theorem dX6_digest_93 : decode cX6_digest 93 = .ok (.if_icmp .ge 16, 3) := by decide +kernel
theorem dX6_digest_96 : decode cX6_digest 96 = .ok (.aload_n 0, 1) := by decide +kernel
theorem dX6_digest_97 : decode cX6_digest 97 = .ok (.lload_n 1, 1) := by decide +kernel
theorem dX6_digest_98 : decode cX6_digest 98 = .ok (.iload_n 3, 1) := by decide +kernel
theorem dX6_digest_99 : decode cX6_digest 99 = .ok (.invokevirtual 301, 3) := by decide +kernel
theorem dX6_digest_102 : decode cX6_digest 102 = .ok (.lstore_n 1, 1) := by decide +kernel
theorem dX6_digest_103 : decode cX6_digest 103 = .ok (.iinc 3 1, 3) := by decide +kernel
theorem dX6_digest_106 : decode cX6_digest 106 = .ok (.goto (-21), 3) := by decide +kernel
theorem dX6_digest_109 : decode cX6_digest 109 = .ok (.iconst 0, 1) := by decide +kernel
theorem dX6_digest_110 : decode cX6_digest 110 = .ok (.istore_n 3, 1) := by decide +kernel
theorem dX6_digest_111 : decode cX6_digest 111 = .ok (.iload_n 3, 1) := by decide +kernel
theorem dX6_digest_112 : decode cX6_digest 112 = .ok (.aload_n 0, 1) := by decide +kernel
theorem dX6_digest_113 : decode cX6_digest 113 = .ok (.getfield 53, 3) := by decide +kernel
theorem dX6_digest_116 : decode cX6_digest 116 = .ok (.getfield 281, 3) := by decide +kernel
theorem dX6_digest_119 : decode cX6_digest 119 = .ok (.if_icmp .ge 39, 3) := by decide +kernel
theorem dX6_digest_122 : decode cX6_digest 122 = .ok (.iconst 0, 1) := by decide +kernel
theorem dX6_digest_123 : decode cX6_digest 123 = .ok (.istore 4, 2) := by decide +kernel
theorem dX6_digest_125 : decode cX6_digest 125 = .ok (.iload 4, 2) := by decide +kernel
theorem dX6_digest_127 : decode cX6_digest 127 = .ok (.iconst 3, 1) := by decide +kernel
theorem dX6_digest_128 : decode cX6_digest 128 = .ok (.if_icmp .gt 24, 3) := by decide +kernel
theorem dX6_digest_131 : decode cX6_digest 131 = .ok (.ldc2_w 289, 3) := by decide +kernel
theorem dX6_digest_134 : decode cX6_digest 134 = .ok (.lload_n 1, 1) := by decide +kernel
theorem dX6_digest_135 : decode cX6_digest 135 = .ok (.lmul, 1) := by decide +kernel
theorem dX6_digest_136 : decode cX6_digest 136 = .ok (.aload_n 0, 1) := by decide +kernel
theorem dX6_digest_137 : decode cX6_digest 137 = .ok (.iload_n 3, 1) := by decide +kernel
theorem dX6_digest_138 : decode cX6_digest 138 = .ok (.iload 4, 2) := by decide +kernel
theorem dX6_digest_140 : decode cX6_digest 140 = .ok (.invokevirtual 304, 3) := by decide +kernel
theorem dX6_digest_143 : decode cX6_digest 143 = .ok (.i2l, 1) := by decide +kernel
theorem dX6_digest_144 : decode cX6_digest 144 = .ok (.ladd, 1) := by decide +kernel
theorem dX6_digest_145 : decode cX6_digest 145 = .ok (.lstore_n 1, 1) := by decide +kernel
theorem dX6_digest_146 : decode cX6_digest 146 = .ok (.iinc 4 1, 3) := by decide +kernel
theorem dX6_digest_149 : decode cX6_digest 149 = .ok (.goto (-24), 3) := by decide +kernel
theorem dX6_digest_152 : decode cX6_digest 152 = .ok (.iinc 3 1, 3) := by decide +kernel
theorem dX6_digest_155 : decode cX6_digest 155 = .ok (.goto (-44), 3) := by decide +kernel
theorem dX6_digest_158 : decode cX6_digest 158 = .ok (.aload_n 0, 1) := by decide +kernel
theorem dX6_digest_159 : decode cX6_digest 159 = .ok (.lload_n 1, 1) := by decide +kernel
theorem dX6_digest_160 : decode cX6_digest 160 = .ok (.iconst 0, 1) := by decide +kernel
theorem dX6_digest_161 : decode cX6_digest 161 = .ok (.invokevirtual 307, 3) := by decide +kernel
theorem dX6_digest_164 : decode cX6_digest 164 = .ok (.lstore_n 1, 1) := by decide +kernel
theorem dX6_digest_165 : decode cX6_digest 165 = .ok (.aload_n 0, 1) := by decide +kernel
theorem dX6_digest_166 : decode cX6_digest 166 = .ok (.lload_n 1, 1) := by decide +kernel
theorem dX6_digest_167 : decode cX6_digest 167 = .ok (.bipush 9, 2) := by decide +kernel
theorem dX6_digest_169 : decode cX6_digest 169 = .ok (.invokevirtual 307, 3) := by decide +kernel
theorem dX6_digest_172 : decode cX6_digest 172 = .ok (.lstore_n 1, 1) := by decide +kernel
theorem dX6_digest_173 : decode cX6_digest 173 = .ok (.aload_n 0, 1) := by decide +kernel
theorem dX6_digest_174 : decode cX6_digest 174 = .ok (.lload_n 1, 1) := by decide +kernel
theorem dX6_digest_175 : decode cX6_digest 175 = .ok (.bipush 29, 2) := by decide +kernel
theorem dX6_digest_177 : decode cX6_digest 177 = .ok (.invokevirtual 307, 3) := by decide +kernel
theorem dX6_digest_180 : decode cX6_digest 180 = .ok (.lstore_n 1, 1) := by decide +kernel
theorem dX6_digest_181 : decode cX6_digest 181 = .ok (.ldc2_w 289, 3) := by decide +kernel
theorem dX6_digest_184 : decode cX6_digest 184 = .ok (.lload_n 1, 1) := by decide +kernel
theorem dX6_digest_185 : decode cX6_digest 185 = .ok (.lmul, 1) := by decide +kernel
theorem dX6_digest_186 : decode cX6_digest 186 = .ok (.aload_n 0, 1) := by decide +kernel
theorem dX6_digest_187 : decode cX6_digest 187 = .ok (.iconst 0, 1) := by decide +kernel
theorem dX6_digest_188 : decode cX6_digest 188 = .ok (.invokevirtual 310, 3) := by decide +kernel
theorem dX6_digest_191 : decode cX6_digest 191 = .ok (.i2l, 1) := by decide +kernel
theorem dX6_digest_192 : decode cX6_digest 192 = .ok (.ladd, 1) := by decide +kernel
theorem dX6_digest_193 : decode cX6_digest 193 = .ok (.lstore_n 1, 1) := by decide +kernel
theorem dX6_digest_194 : decode cX6_digest 194 = .ok (.ldc2_w 289, 3) := by decide +kernel
theorem dX6_digest_197 : decode cX6_digest 197 = .ok (.lload_n 1, 1) := by decide +kernel
theorem dX6_digest_198 : decode cX6_digest 198 = .ok (.lmul, 1) := by decide +kernel
theorem dX6_digest_199 : decode cX6_digest 199 = .ok (.aload_n 0, 1) := by decide +kernel
theorem dX6_digest_200 : decode cX6_digest 200 = .ok (.iconst 1, 1) := by decide +kernel
theorem dX6_digest_201 : decode cX6_digest 201 = .ok (.invokevirtual 310, 3) := by decide +kernel
theorem dX6_digest_204 : decode cX6_digest 204 = .ok (.i2l, 1) := by decide +kernel
theorem dX6_digest_205 : decode cX6_digest 205 = .ok (.ladd, 1) := by decide +kernel
theorem dX6_digest_206 : decode cX6_digest 206 = .ok (.lstore_n 1, 1) := by decide +kernel
theorem dX6_digest_207 : decode cX6_digest 207 = .ok (.ldc2_w 289, 3) := by decide +kernel
theorem dX6_digest_210 : decode cX6_digest 210 = .ok (.lload_n 1, 1) := by decide +kernel
theorem dX6_digest_211 : decode cX6_digest 211 = .ok (.lmul, 1) := by decide +kernel
theorem dX6_digest_212 : decode cX6_digest 212 = .ok (.aload_n 0, 1) := by decide +kernel
theorem dX6_digest_213 : decode cX6_digest 213 = .ok (.invokevirtual 313, 3) := by decide +kernel
theorem dX6_digest_216 : decode cX6_digest 216 = .ok (.i2l, 1) := by decide +kernel
theorem dX6_digest_217 : decode cX6_digest 217 = .ok (.ladd, 1) := by decide +kernel
theorem dX6_digest_218 : decode cX6_digest 218 = .ok (.lstore_n 1, 1) := by decide +kernel
theorem dX6_digest_219 : decode cX6_digest 219 = .ok (.ldc2_w 289, 3) := by decide +kernel
theorem dX6_digest_222 : decode cX6_digest 222 = .ok (.lload_n 1, 1) := by decide +kernel
theorem dX6_digest_223 : decode cX6_digest 223 = .ok (.lmul, 1) := by decide +kernel
theorem dX6_digest_224 : decode cX6_digest 224 = .ok (.aload_n 0, 1) := by decide +kernel
theorem dX6_digest_225 : decode cX6_digest 225 = .ok (.iconst 0, 1) := by decide +kernel
theorem dX6_digest_226 : decode cX6_digest 226 = .ok (.invokevirtual 316, 3) := by decide +kernel
theorem dX6_digest_229 : decode cX6_digest 229 = .ok (.i2l, 1) := by decide +kernel
theorem dX6_digest_230 : decode cX6_digest 230 = .ok (.ladd, 1) := by decide +kernel
theorem dX6_digest_231 : decode cX6_digest 231 = .ok (.lstore_n 1, 1) := by decide +kernel
theorem dX6_digest_232 : decode cX6_digest 232 = .ok (.ldc2_w 289, 3) := by decide +kernel
theorem dX6_digest_235 : decode cX6_digest 235 = .ok (.lload_n 1, 1) := by decide +kernel
theorem dX6_digest_236 : decode cX6_digest 236 = .ok (.lmul, 1) := by decide +kernel
theorem dX6_digest_237 : decode cX6_digest 237 = .ok (.aload_n 0, 1) := by decide +kernel
theorem dX6_digest_238 : decode cX6_digest 238 = .ok (.iconst 1, 1) := by decide +kernel
theorem dX6_digest_239 : decode cX6_digest 239 = .ok (.invokevirtual 316, 3) := by decide +kernel
theorem dX6_digest_242 : decode cX6_digest 242 = .ok (.i2l, 1) := by decide +kernel
theorem dX6_digest_243 : decode cX6_digest 243 = .ok (.ladd, 1) := by decide +kernel
theorem dX6_digest_244 : decode cX6_digest 244 = .ok (.lstore_n 1, 1) := by decide +kernel
theorem dX6_digest_245 : decode cX6_digest 245 = .ok (.ldc2_w 289, 3) := by decide +kernel
theorem dX6_digest_248 : decode cX6_digest 248 = .ok (.lload_n 1, 1) := by decide +kernel
theorem dX6_digest_249 : decode cX6_digest 249 = .ok (.lmul, 1) := by decide +kernel
theorem dX6_digest_250 : decode cX6_digest 250 = .ok (.aload_n 0, 1) := by decide +kernel
theorem dX6_digest_251 : decode cX6_digest 251 = .ok (.invokevirtual 319, 3) := by decide +kernel
theorem dX6_digest_254 : decode cX6_digest 254 = .ok (.i2l, 1) := by decide +kernel
theorem dX6_digest_255 : decode cX6_digest 255 = .ok (.ladd, 1) := by decide +kernel
theorem dX6_digest_256 : decode cX6_digest 256 = .ok (.lreturn, 1) := by decide +kernel
theorem dX6_withShip_0 : decode cX6_withShip 0 = .ok (.lload_n 1, 1) := by decide +kernel
theorem dX6_withShip_1 : decode cX6_withShip 1 = .ok (.lstore 4, 2) := by decide +kernel
theorem dX6_withShip_3 : decode cX6_withShip 3 = .ok (.ldc2_w 289, 3) := by decide +kernel
theorem dX6_withShip_6 : decode cX6_withShip 6 = .ok (.lload 4, 2) := by decide +kernel
theorem dX6_withShip_8 : decode cX6_withShip 8 = .ok (.lmul, 1) := by decide +kernel
theorem dX6_withShip_9 : decode cX6_withShip 9 = .ok (.aload_n 0, 1) := by decide +kernel
theorem dX6_withShip_10 : decode cX6_withShip 10 = .ok (.iload_n 3, 1) := by decide +kernel
theorem dX6_withShip_11 : decode cX6_withShip 11 = .ok (.iconst 0, 1) := by decide +kernel
theorem dX6_withShip_12 : decode cX6_withShip 12 = .ok (.invokevirtual 322, 3) := by decide +kernel
theorem dX6_withShip_15 : decode cX6_withShip 15 = .ok (.i2l, 1) := by decide +kernel
theorem dX6_withShip_16 : decode cX6_withShip 16 = .ok (.ladd, 1) := by decide +kernel
theorem dX6_withShip_17 : decode cX6_withShip 17 = .ok (.lstore 4, 2) := by decide +kernel
theorem dX6_withShip_19 : decode cX6_withShip 19 = .ok (.ldc2_w 289, 3) := by decide +kernel
theorem dX6_withShip_22 : decode cX6_withShip 22 = .ok (.lload 4, 2) := by decide +kernel
theorem dX6_withShip_24 : decode cX6_withShip 24 = .ok (.lmul, 1) := by decide +kernel
theorem dX6_withShip_25 : decode cX6_withShip 25 = .ok (.aload_n 0, 1) := by decide +kernel
theorem dX6_withShip_26 : decode cX6_withShip 26 = .ok (.iload_n 3, 1) := by decide +kernel
theorem dX6_withShip_27 : decode cX6_withShip 27 = .ok (.iconst 1, 1) := by decide +kernel
theorem dX6_withShip_28 : decode cX6_withShip 28 = .ok (.invokevirtual 322, 3) := by decide +kernel
theorem dX6_withShip_31 : decode cX6_withShip 31 = .ok (.i2l, 1) := by decide +kernel
theorem dX6_withShip_32 : decode cX6_withShip 32 = .ok (.ladd, 1) := by decide +kernel
theorem dX6_withShip_33 : decode cX6_withShip 33 = .ok (.lstore 4, 2) := by decide +kernel
theorem dX6_withShip_35 : decode cX6_withShip 35 = .ok (.ldc2_w 289, 3) := by decide +kernel
theorem dX6_withShip_38 : decode cX6_withShip 38 = .ok (.lload 4, 2) := by decide +kernel
theorem dX6_withShip_40 : decode cX6_withShip 40 = .ok (.lmul, 1) := by decide +kernel
theorem dX6_withShip_41 : decode cX6_withShip 41 = .ok (.aload_n 0, 1) := by decide +kernel
theorem dX6_withShip_42 : decode cX6_withShip 42 = .ok (.iload_n 3, 1) := by decide +kernel
theorem dX6_withShip_43 : decode cX6_withShip 43 = .ok (.invokevirtual 325, 3) := by decide +kernel
theorem dX6_withShip_46 : decode cX6_withShip 46 = .ok (.i2l, 1) := by decide +kernel
theorem dX6_withShip_47 : decode cX6_withShip 47 = .ok (.ladd, 1) := by decide +kernel
theorem dX6_withShip_48 : decode cX6_withShip 48 = .ok (.lstore 4, 2) := by decide +kernel
theorem dX6_withShip_50 : decode cX6_withShip 50 = .ok (.ldc2_w 289, 3) := by decide +kernel
theorem dX6_withShip_53 : decode cX6_withShip 53 = .ok (.lload 4, 2) := by decide +kernel
theorem dX6_withShip_55 : decode cX6_withShip 55 = .ok (.lmul, 1) := by decide +kernel
theorem dX6_withShip_56 : decode cX6_withShip 56 = .ok (.aload_n 0, 1) := by decide +kernel
theorem dX6_withShip_57 : decode cX6_withShip 57 = .ok (.iload_n 3, 1) := by decide +kernel
theorem dX6_withShip_58 : decode cX6_withShip 58 = .ok (.iconst 0, 1) := by decide +kernel
theorem dX6_withShip_59 : decode cX6_withShip 59 = .ok (.invokevirtual 328, 3) := by decide +kernel
theorem dX6_withShip_62 : decode cX6_withShip 62 = .ok (.i2l, 1) := by decide +kernel
theorem dX6_withShip_63 : decode cX6_withShip 63 = .ok (.ladd, 1) := by decide +kernel
theorem dX6_withShip_64 : decode cX6_withShip 64 = .ok (.lstore 4, 2) := by decide +kernel
theorem dX6_withShip_66 : decode cX6_withShip 66 = .ok (.ldc2_w 289, 3) := by decide +kernel
theorem dX6_withShip_69 : decode cX6_withShip 69 = .ok (.lload 4, 2) := by decide +kernel
theorem dX6_withShip_71 : decode cX6_withShip 71 = .ok (.lmul, 1) := by decide +kernel
theorem dX6_withShip_72 : decode cX6_withShip 72 = .ok (.aload_n 0, 1) := by decide +kernel
theorem dX6_withShip_73 : decode cX6_withShip 73 = .ok (.bipush 9, 2) := by decide +kernel
theorem dX6_withShip_75 : decode cX6_withShip 75 = .ok (.iload_n 3, 1) := by decide +kernel
theorem dX6_withShip_76 : decode cX6_withShip 76 = .ok (.invokevirtual 331, 3) := by decide +kernel
theorem dX6_withShip_79 : decode cX6_withShip 79 = .ok (.i2l, 1) := by decide +kernel
theorem dX6_withShip_80 : decode cX6_withShip 80 = .ok (.ladd, 1) := by decide +kernel
theorem dX6_withShip_81 : decode cX6_withShip 81 = .ok (.lstore 4, 2) := by decide +kernel
theorem dX6_withShip_83 : decode cX6_withShip 83 = .ok (.ldc2_w 289, 3) := by decide +kernel
theorem dX6_withShip_86 : decode cX6_withShip 86 = .ok (.lload 4, 2) := by decide +kernel
theorem dX6_withShip_88 : decode cX6_withShip 88 = .ok (.lmul, 1) := by decide +kernel
theorem dX6_withShip_89 : decode cX6_withShip 89 = .ok (.aload_n 0, 1) := by decide +kernel
theorem dX6_withShip_90 : decode cX6_withShip 90 = .ok (.iload_n 3, 1) := by decide +kernel
theorem dX6_withShip_91 : decode cX6_withShip 91 = .ok (.invokevirtual 333, 3) := by decide +kernel
theorem dX6_withShip_94 : decode cX6_withShip 94 = .ok (.i2l, 1) := by decide +kernel
theorem dX6_withShip_95 : decode cX6_withShip 95 = .ok (.ladd, 1) := by decide +kernel
theorem dX6_withShip_96 : decode cX6_withShip 96 = .ok (.lreturn, 1) := by decide +kernel
theorem dX6_withName_0 : decode cX6_withName 0 = .ok (.lload_n 1, 1) := by decide +kernel
theorem dX6_withName_1 : decode cX6_withName 1 = .ok (.lstore 4, 2) := by decide +kernel
theorem dX6_withName_3 : decode cX6_withName 3 = .ok (.iconst 0, 1) := by decide +kernel
theorem dX6_withName_4 : decode cX6_withName 4 = .ok (.istore 6, 2) := by decide +kernel
theorem dX6_withName_6 : decode cX6_withName 6 = .ok (.iload 6, 2) := by decide +kernel
theorem dX6_withName_8 : decode cX6_withName 8 = .ok (.iconst 2, 1) := by decide +kernel
theorem dX6_withName_9 : decode cX6_withName 9 = .ok (.if_icmp .gt 26, 3) := by decide +kernel
theorem dX6_withName_12 : decode cX6_withName 12 = .ok (.ldc2_w 289, 3) := by decide +kernel
theorem dX6_withName_15 : decode cX6_withName 15 = .ok (.lload 4, 2) := by decide +kernel
theorem dX6_withName_17 : decode cX6_withName 17 = .ok (.lmul, 1) := by decide +kernel
theorem dX6_withName_18 : decode cX6_withName 18 = .ok (.aload_n 0, 1) := by decide +kernel
theorem dX6_withName_19 : decode cX6_withName 19 = .ok (.iload_n 3, 1) := by decide +kernel
theorem dX6_withName_20 : decode cX6_withName 20 = .ok (.iload 6, 2) := by decide +kernel
theorem dX6_withName_22 : decode cX6_withName 22 = .ok (.invokevirtual 336, 3) := by decide +kernel
theorem dX6_withName_25 : decode cX6_withName 25 = .ok (.i2l, 1) := by decide +kernel
theorem dX6_withName_26 : decode cX6_withName 26 = .ok (.ladd, 1) := by decide +kernel
theorem dX6_withName_27 : decode cX6_withName 27 = .ok (.lstore 4, 2) := by decide +kernel
theorem dX6_withName_29 : decode cX6_withName 29 = .ok (.iinc 6 1, 3) := by decide +kernel
theorem dX6_withName_32 : decode cX6_withName 32 = .ok (.goto (-26), 3) := by decide +kernel
theorem dX6_withName_35 : decode cX6_withName 35 = .ok (.iconst 0, 1) := by decide +kernel
theorem dX6_withName_36 : decode cX6_withName 36 = .ok (.istore 6, 2) := by decide +kernel
theorem dX6_withName_38 : decode cX6_withName 38 = .ok (.iload 6, 2) := by decide +kernel
theorem dX6_withName_40 : decode cX6_withName 40 = .ok (.iconst 2, 1) := by decide +kernel
theorem dX6_withName_41 : decode cX6_withName 41 = .ok (.if_icmp .gt 26, 3) := by decide +kernel
theorem dX6_withName_44 : decode cX6_withName 44 = .ok (.ldc2_w 289, 3) := by decide +kernel
theorem dX6_withName_47 : decode cX6_withName 47 = .ok (.lload 4, 2) := by decide +kernel
theorem dX6_withName_49 : decode cX6_withName 49 = .ok (.lmul, 1) := by decide +kernel
theorem dX6_withName_50 : decode cX6_withName 50 = .ok (.aload_n 0, 1) := by decide +kernel
theorem dX6_withName_51 : decode cX6_withName 51 = .ok (.iload_n 3, 1) := by decide +kernel
theorem dX6_withName_52 : decode cX6_withName 52 = .ok (.iload 6, 2) := by decide +kernel
theorem dX6_withName_54 : decode cX6_withName 54 = .ok (.invokevirtual 339, 3) := by decide +kernel
theorem dX6_withName_57 : decode cX6_withName 57 = .ok (.i2l, 1) := by decide +kernel
theorem dX6_withName_58 : decode cX6_withName 58 = .ok (.ladd, 1) := by decide +kernel
theorem dX6_withName_59 : decode cX6_withName 59 = .ok (.lstore 4, 2) := by decide +kernel
theorem dX6_withName_61 : decode cX6_withName 61 = .ok (.iinc 6 1, 3) := by decide +kernel
theorem dX6_withName_64 : decode cX6_withName 64 = .ok (.goto (-26), 3) := by decide +kernel
theorem dX6_withName_67 : decode cX6_withName 67 = .ok (.ldc2_w 289, 3) := by decide +kernel
theorem dX6_withName_70 : decode cX6_withName 70 = .ok (.lload 4, 2) := by decide +kernel
theorem dX6_withName_72 : decode cX6_withName 72 = .ok (.lmul, 1) := by decide +kernel
theorem dX6_withName_73 : decode cX6_withName 73 = .ok (.aload_n 0, 1) := by decide +kernel
theorem dX6_withName_74 : decode cX6_withName 74 = .ok (.bipush 9, 2) := by decide +kernel
theorem dX6_withName_76 : decode cX6_withName 76 = .ok (.iload_n 3, 1) := by decide +kernel
theorem dX6_withName_77 : decode cX6_withName 77 = .ok (.invokevirtual 341, 3) := by decide +kernel
theorem dX6_withName_80 : decode cX6_withName 80 = .ok (.i2l, 1) := by decide +kernel
theorem dX6_withName_81 : decode cX6_withName 81 = .ok (.ladd, 1) := by decide +kernel
theorem dX6_withName_82 : decode cX6_withName 82 = .ok (.lstore 4, 2) := by decide +kernel
theorem dX6_withName_84 : decode cX6_withName 84 = .ok (.ldc2_w 289, 3) := by decide +kernel
theorem dX6_withName_87 : decode cX6_withName 87 = .ok (.lload 4, 2) := by decide +kernel
theorem dX6_withName_89 : decode cX6_withName 89 = .ok (.lmul, 1) := by decide +kernel
theorem dX6_withName_90 : decode cX6_withName 90 = .ok (.aload_n 0, 1) := by decide +kernel
theorem dX6_withName_91 : decode cX6_withName 91 = .ok (.iconst 0, 1) := by decide +kernel
theorem dX6_withName_92 : decode cX6_withName 92 = .ok (.iload_n 3, 1) := by decide +kernel
theorem dX6_withName_93 : decode cX6_withName 93 = .ok (.invokevirtual 343, 3) := by decide +kernel
theorem dX6_withName_96 : decode cX6_withName 96 = .ok (.i2l, 1) := by decide +kernel
theorem dX6_withName_97 : decode cX6_withName 97 = .ok (.ladd, 1) := by decide +kernel
theorem dX6_withName_98 : decode cX6_withName 98 = .ok (.lstore 4, 2) := by decide +kernel
theorem dX6_withName_100 : decode cX6_withName 100 = .ok (.ldc2_w 289, 3) := by decide +kernel
theorem dX6_withName_103 : decode cX6_withName 103 = .ok (.lload 4, 2) := by decide +kernel
theorem dX6_withName_105 : decode cX6_withName 105 = .ok (.lmul, 1) := by decide +kernel
theorem dX6_withName_106 : decode cX6_withName 106 = .ok (.aload_n 0, 1) := by decide +kernel
theorem dX6_withName_107 : decode cX6_withName 107 = .ok (.iload_n 3, 1) := by decide +kernel
theorem dX6_withName_108 : decode cX6_withName 108 = .ok (.iconst 0, 1) := by decide +kernel
theorem dX6_withName_109 : decode cX6_withName 109 = .ok (.invokevirtual 346, 3) := by decide +kernel
theorem dX6_withName_112 : decode cX6_withName 112 = .ok (.ladd, 1) := by decide +kernel
theorem dX6_withName_113 : decode cX6_withName 113 = .ok (.lstore 4, 2) := by decide +kernel
theorem dX6_withName_115 : decode cX6_withName 115 = .ok (.ldc2_w 289, 3) := by decide +kernel
theorem dX6_withName_118 : decode cX6_withName 118 = .ok (.lload 4, 2) := by decide +kernel
theorem dX6_withName_120 : decode cX6_withName 120 = .ok (.lmul, 1) := by decide +kernel
theorem dX6_withName_121 : decode cX6_withName 121 = .ok (.aload_n 0, 1) := by decide +kernel
theorem dX6_withName_122 : decode cX6_withName 122 = .ok (.iload_n 3, 1) := by decide +kernel
theorem dX6_withName_123 : decode cX6_withName 123 = .ok (.iconst 1, 1) := by decide +kernel
theorem dX6_withName_124 : decode cX6_withName 124 = .ok (.invokevirtual 346, 3) := by decide +kernel
theorem dX6_withName_127 : decode cX6_withName 127 = .ok (.ladd, 1) := by decide +kernel
theorem dX6_withName_128 : decode cX6_withName 128 = .ok (.lstore 4, 2) := by decide +kernel
theorem dX6_withName_130 : decode cX6_withName 130 = .ok (.ldc2_w 289, 3) := by decide +kernel
theorem dX6_withName_133 : decode cX6_withName 133 = .ok (.lload 4, 2) := by decide +kernel
theorem dX6_withName_135 : decode cX6_withName 135 = .ok (.lmul, 1) := by decide +kernel
theorem dX6_withName_136 : decode cX6_withName 136 = .ok (.aload_n 0, 1) := by decide +kernel
theorem dX6_withName_137 : decode cX6_withName 137 = .ok (.iload_n 3, 1) := by decide +kernel
theorem dX6_withName_138 : decode cX6_withName 138 = .ok (.bipush 9, 2) := by decide +kernel
theorem dX6_withName_140 : decode cX6_withName 140 = .ok (.iconst 0, 1) := by decide +kernel
theorem dX6_withName_141 : decode cX6_withName 141 = .ok (.invokevirtual 350, 3) := by decide +kernel
theorem dX6_withName_144 : decode cX6_withName 144 = .ok (.ladd, 1) := by decide +kernel
theorem dX6_withName_145 : decode cX6_withName 145 = .ok (.lstore 4, 2) := by decide +kernel
theorem dX6_withName_147 : decode cX6_withName 147 = .ok (.ldc2_w 289, 3) := by decide +kernel
theorem dX6_withName_150 : decode cX6_withName 150 = .ok (.lload 4, 2) := by decide +kernel
theorem dX6_withName_152 : decode cX6_withName 152 = .ok (.lmul, 1) := by decide +kernel
theorem dX6_withName_153 : decode cX6_withName 153 = .ok (.aload_n 0, 1) := by decide +kernel
theorem dX6_withName_154 : decode cX6_withName 154 = .ok (.iload_n 3, 1) := by decide +kernel
theorem dX6_withName_155 : decode cX6_withName 155 = .ok (.bipush 9, 2) := by decide +kernel
theorem dX6_withName_157 : decode cX6_withName 157 = .ok (.iconst 1, 1) := by decide +kernel
theorem dX6_withName_158 : decode cX6_withName 158 = .ok (.invokevirtual 350, 3) := by decide +kernel
theorem dX6_withName_161 : decode cX6_withName 161 = .ok (.ladd, 1) := by decide +kernel
theorem dX6_withName_162 : decode cX6_withName 162 = .ok (.lstore 4, 2) := by decide +kernel
theorem dX6_withName_164 : decode cX6_withName 164 = .ok (.ldc2_w 289, 3) := by decide +kernel
theorem dX6_withName_167 : decode cX6_withName 167 = .ok (.lload 4, 2) := by decide +kernel
theorem dX6_withName_169 : decode cX6_withName 169 = .ok (.lmul, 1) := by decide +kernel
theorem dX6_withName_170 : decode cX6_withName 170 = .ok (.aload_n 0, 1) := by decide +kernel
theorem dX6_withName_171 : decode cX6_withName 171 = .ok (.bipush 7, 2) := by decide +kernel
theorem dX6_withName_173 : decode cX6_withName 173 = .ok (.bipush 9, 2) := by decide +kernel
theorem dX6_withName_175 : decode cX6_withName 175 = .ok (.iload_n 3, 1) := by decide +kernel
theorem dX6_withName_176 : decode cX6_withName 176 = .ok (.iconst 0, 1) := by decide +kernel
theorem dX6_withName_177 : decode cX6_withName 177 = .ok (.invokevirtual 353, 3) := by decide +kernel
theorem dX6_withName_180 : decode cX6_withName 180 = .ok (.i2l, 1) := by decide +kernel
theorem dX6_withName_181 : decode cX6_withName 181 = .ok (.ladd, 1) := by decide +kernel
theorem dX6_withName_182 : decode cX6_withName 182 = .ok (.lstore 4, 2) := by decide +kernel
theorem dX6_withName_184 : decode cX6_withName 184 = .ok (.ldc2_w 289, 3) := by decide +kernel
theorem dX6_withName_187 : decode cX6_withName 187 = .ok (.lload 4, 2) := by decide +kernel
theorem dX6_withName_189 : decode cX6_withName 189 = .ok (.lmul, 1) := by decide +kernel
theorem dX6_withName_190 : decode cX6_withName 190 = .ok (.aload_n 0, 1) := by decide +kernel
theorem dX6_withName_191 : decode cX6_withName 191 = .ok (.bipush 7, 2) := by decide +kernel
theorem dX6_withName_193 : decode cX6_withName 193 = .ok (.bipush 9, 2) := by decide +kernel
theorem dX6_withName_195 : decode cX6_withName 195 = .ok (.iload_n 3, 1) := by decide +kernel
theorem dX6_withName_196 : decode cX6_withName 196 = .ok (.iconst 1, 1) := by decide +kernel
theorem dX6_withName_197 : decode cX6_withName 197 = .ok (.invokevirtual 353, 3) := by decide +kernel
theorem dX6_withName_200 : decode cX6_withName 200 = .ok (.i2l, 1) := by decide +kernel
theorem dX6_withName_201 : decode cX6_withName 201 = .ok (.ladd, 1) := by decide +kernel
theorem dX6_withName_202 : decode cX6_withName 202 = .ok (.lreturn, 1) := by decide +kernel
theorem dX6_withYear_0 : decode cX6_withYear 0 = .ok (.ldc2_w 289, 3) := by decide +kernel
theorem dX6_withYear_3 : decode cX6_withYear 3 = .ok (.lload_n 1, 1) := by decide +kernel
theorem dX6_withYear_4 : decode cX6_withYear 4 = .ok (.lmul, 1) := by decide +kernel
theorem dX6_withYear_5 : decode cX6_withYear 5 = .ok (.aload_n 0, 1) := by decide +kernel
theorem dX6_withYear_6 : decode cX6_withYear 6 = .ok (.iload_n 3, 1) := by decide +kernel
theorem dX6_withYear_7 : decode cX6_withYear 7 = .ok (.iconst 0, 1) := by decide +kernel
theorem dX6_withYear_8 : decode cX6_withYear 8 = .ok (.invokevirtual 357, 3) := by decide +kernel
theorem dX6_withYear_11 : decode cX6_withYear 11 = .ok (.i2l, 1) := by decide +kernel
theorem dX6_withYear_12 : decode cX6_withYear 12 = .ok (.ladd, 1) := by decide +kernel
theorem dX6_withYear_13 : decode cX6_withYear 13 = .ok (.lstore 4, 2) := by decide +kernel
theorem dX6_withYear_15 : decode cX6_withYear 15 = .ok (.ldc2_w 289, 3) := by decide +kernel
theorem dX6_withYear_18 : decode cX6_withYear 18 = .ok (.lload 4, 2) := by decide +kernel
theorem dX6_withYear_20 : decode cX6_withYear 20 = .ok (.lmul, 1) := by decide +kernel
theorem dX6_withYear_21 : decode cX6_withYear 21 = .ok (.aload_n 0, 1) := by decide +kernel
theorem dX6_withYear_22 : decode cX6_withYear 22 = .ok (.iload_n 3, 1) := by decide +kernel
end
section
theorem dX6_withYear_23 : decode cX6_withYear 23 = .ok (.iconst 1, 1) := by decide +kernel
theorem dX6_withYear_24 : decode cX6_withYear 24 = .ok (.invokevirtual 357, 3) := by decide +kernel
theorem dX6_withYear_27 : decode cX6_withYear 27 = .ok (.i2l, 1) := by decide +kernel
theorem dX6_withYear_28 : decode cX6_withYear 28 = .ok (.ladd, 1) := by decide +kernel
theorem dX6_withYear_29 : decode cX6_withYear 29 = .ok (.lreturn, 1) := by decide +kernel
theorem dX6_textAt_0 : decode cX6_textAt 0 = .ok (.iload_n 1, 1) := by decide +kernel
theorem dX6_textAt_1 : decode cX6_textAt 1 = .ok (.tableswitch 42 0 2 #[27, 32, 37], 27) := by decide +kernel
theorem dX6_textAt_28 : decode cX6_textAt 28 = .ok (.aload_n 0, 1) := by decide +kernel
theorem dX6_textAt_29 : decode cX6_textAt 29 = .ok (.getfield 16, 3) := by decide +kernel
theorem dX6_textAt_32 : decode cX6_textAt 32 = .ok (.areturn, 1) := by decide +kernel
theorem dX6_textAt_33 : decode cX6_textAt 33 = .ok (.aload_n 0, 1) := by decide +kernel
theorem dX6_textAt_34 : decode cX6_textAt 34 = .ok (.getfield 22, 3) := by decide +kernel
theorem dX6_textAt_37 : decode cX6_textAt 37 = .ok (.areturn, 1) := by decide +kernel
theorem dX6_textAt_38 : decode cX6_textAt 38 = .ok (.aload_n 0, 1) := by decide +kernel
theorem dX6_textAt_39 : decode cX6_textAt 39 = .ok (.getfield 27, 3) := by decide +kernel
theorem dX6_textAt_42 : decode cX6_textAt 42 = .ok (.areturn, 1) := by decide +kernel
theorem dX6_textAt_43 : decode cX6_textAt 43 = .ok (.aconst_null, 1) := by decide +kernel
theorem dX6_textAt_44 : decode cX6_textAt 44 = .ok (.areturn, 1) := by decide +kernel
theorem dX6_sheetAt_0 : decode cX6_sheetAt 0 = .ok (.iload_n 1, 1) := by decide +kernel
theorem dX6_sheetAt_1 : decode cX6_sheetAt 1 = .ok (.iconst 3, 1) := by decide +kernel
theorem dX6_sheetAt_2 : decode cX6_sheetAt 2 = .ok (.invokestatic 78, 3) := by decide +kernel
theorem dX6_sheetAt_5 : decode cX6_sheetAt 5 = .ok (.ifCond .eq 12, 3) := by decide +kernel
theorem dX6_sheetAt_8 : decode cX6_sheetAt 8 = .ok (.aload_n 0, 1) := by decide +kernel
theorem dX6_sheetAt_9 : decode cX6_sheetAt 9 = .ok (.getfield 41, 3) := by decide +kernel
theorem dX6_sheetAt_12 : decode cX6_sheetAt 12 = .ok (.iload_n 1, 1) := by decide +kernel
theorem dX6_sheetAt_13 : decode cX6_sheetAt 13 = .ok (.aaload, 1) := by decide +kernel
theorem dX6_sheetAt_14 : decode cX6_sheetAt 14 = .ok (.goto 4, 3) := by decide +kernel
theorem dX6_sheetAt_17 : decode cX6_sheetAt 17 = .ok (.aconst_null, 1) := by decide +kernel
theorem dX6_sheetAt_18 : decode cX6_sheetAt 18 = .ok (.areturn, 1) := by decide +kernel
theorem dX6_settle_0 : decode cX6_settle 0 = .ok (.aload_n 0, 1) := by decide +kernel
theorem dX6_settle_1 : decode cX6_settle 1 = .ok (.getfield 53, 3) := by decide +kernel
theorem dX6_settle_4 : decode cX6_settle 4 = .ok (.aload_n 0, 1) := by decide +kernel
theorem dX6_settle_5 : decode cX6_settle 5 = .ok (.getfield 16, 3) := by decide +kernel
theorem dX6_settle_8 : decode cX6_settle 8 = .ok (.invokevirtual 360, 3) := by decide +kernel
theorem dX6_settle_11 : decode cX6_settle 11 = .ok (.aload_n 0, 1) := by decide +kernel
theorem dX6_settle_12 : decode cX6_settle 12 = .ok (.getfield 53, 3) := by decide +kernel
theorem dX6_settle_15 : decode cX6_settle 15 = .ok (.aload_n 0, 1) := by decide +kernel
theorem dX6_settle_16 : decode cX6_settle 16 = .ok (.getfield 22, 3) := by decide +kernel
theorem dX6_settle_19 : decode cX6_settle 19 = .ok (.invokevirtual 364, 3) := by decide +kernel
theorem dX6_settle_22 : decode cX6_settle 22 = .ok (.aload_n 0, 1) := by decide +kernel
theorem dX6_settle_23 : decode cX6_settle 23 = .ok (.getfield 53, 3) := by decide +kernel
theorem dX6_settle_26 : decode cX6_settle 26 = .ok (.aload_n 0, 1) := by decide +kernel
theorem dX6_settle_27 : decode cX6_settle 27 = .ok (.getfield 27, 3) := by decide +kernel
theorem dX6_settle_30 : decode cX6_settle 30 = .ok (.invokevirtual 367, 3) := by decide +kernel
theorem dX6_settle_33 : decode cX6_settle 33 = .ok (.aload_n 0, 1) := by decide +kernel
theorem dX6_settle_34 : decode cX6_settle 34 = .ok (.getfield 53, 3) := by decide +kernel
theorem dX6_settle_37 : decode cX6_settle 37 = .ok (.aload_n 0, 1) := by decide +kernel
theorem dX6_settle_38 : decode cX6_settle 38 = .ok (.getfield 138, 3) := by decide +kernel
theorem dX6_settle_41 : decode cX6_settle 41 = .ok (.invokevirtual 220, 3) := by decide +kernel
theorem dX6_settle_44 : decode cX6_settle 44 = .ok (.return_, 1) := by decide +kernel
theorem dX6_found_0 : decode cX6_found 0 = .ok (.aload_n 0, 1) := by decide +kernel
theorem dX6_found_1 : decode cX6_found 1 = .ok (.iload_n 1, 1) := by decide +kernel
theorem dX6_found_2 : decode cX6_found 2 = .ok (.putfield 284, 3) := by decide +kernel
theorem dX6_found_5 : decode cX6_found 5 = .ok (.bipush (-10), 2) := by decide +kernel
theorem dX6_found_7 : decode cX6_found 7 = .ok (.iload_n 1, 1) := by decide +kernel
theorem dX6_found_8 : decode cX6_found 8 = .ok (.isub, 1) := by decide +kernel
theorem dX6_found_9 : decode cX6_found 9 = .ok (.ireturn, 1) := by decide +kernel
theorem dX6_isWithin_0 : decode cX6_isWithin 0 = .ok (.iload_n 0, 1) := by decide +kernel
theorem dX6_isWithin_1 : decode cX6_isWithin 1 = .ok (.ifCond .lt 12, 3) := by decide +kernel
theorem dX6_isWithin_4 : decode cX6_isWithin 4 = .ok (.iload_n 0, 1) := by decide +kernel
theorem dX6_isWithin_5 : decode cX6_isWithin 5 = .ok (.iload_n 1, 1) := by decide +kernel
theorem dX6_isWithin_6 : decode cX6_isWithin 6 = .ok (.if_icmp .gt 7, 3) := by decide +kernel
theorem dX6_isWithin_9 : decode cX6_isWithin 9 = .ok (.iconst 1, 1) := by decide +kernel
theorem dX6_isWithin_10 : decode cX6_isWithin 10 = .ok (.goto 4, 3) := by decide +kernel
theorem dX6_isWithin_13 : decode cX6_isWithin 13 = .ok (.iconst 0, 1) := by decide +kernel
theorem dX6_isWithin_14 : decode cX6_isWithin 14 = .ok (.ireturn, 1) := by decide +kernel
theorem dX6_isYear_0 : decode cX6_isYear 0 = .ok (.iload_n 0, 1) := by decide +kernel
theorem dX6_isYear_1 : decode cX6_isYear 1 = .ok (.bipush 29, 2) := by decide +kernel
theorem dX6_isYear_3 : decode cX6_isYear 3 = .ok (.invokestatic 78, 3) := by decide +kernel
theorem dX6_isYear_6 : decode cX6_isYear 6 = .ok (.ireturn, 1) := by decide +kernel
theorem dX6_isForm_0 : decode cX6_isForm 0 = .ok (.iload_n 0, 1) := by decide +kernel
theorem dX6_isForm_1 : decode cX6_isForm 1 = .ok (.iconst 2, 1) := by decide +kernel
theorem dX6_isForm_2 : decode cX6_isForm 2 = .ok (.invokestatic 78, 3) := by decide +kernel
theorem dX6_isForm_5 : decode cX6_isForm 5 = .ok (.ireturn, 1) := by decide +kernel
theorem dX6_isLoss_0 : decode cX6_isLoss 0 = .ok (.iload_n 0, 1) := by decide +kernel
theorem dX6_isLoss_1 : decode cX6_isLoss 1 = .ok (.invokestatic 176, 3) := by decide +kernel
theorem dX6_isLoss_4 : decode cX6_isLoss 4 = .ok (.ifCond .eq 15, 3) := by decide +kernel
theorem dX6_isLoss_7 : decode cX6_isLoss 7 = .ok (.iload_n 1, 1) := by decide +kernel
theorem dX6_isLoss_8 : decode cX6_isLoss 8 = .ok (.iconst 5, 1) := by decide +kernel
theorem dX6_isLoss_9 : decode cX6_isLoss 9 = .ok (.invokestatic 78, 3) := by decide +kernel
theorem dX6_isLoss_12 : decode cX6_isLoss 12 = .ok (.ifCond .eq 7, 3) := by decide +kernel
theorem dX6_isLoss_15 : decode cX6_isLoss 15 = .ok (.iconst 1, 1) := by decide +kernel
theorem dX6_isLoss_16 : decode cX6_isLoss 16 = .ok (.goto 4, 3) := by decide +kernel
theorem dX6_isLoss_19 : decode cX6_isLoss 19 = .ok (.iconst 0, 1) := by decide +kernel
theorem dX6_isLoss_20 : decode cX6_isLoss 20 = .ok (.ireturn, 1) := by decide +kernel
theorem dX6_partOfFraction_0 : decode cX6_partOfFraction 0 = .ok (.iload_n 0, 1) := by decide +kernel
theorem dX6_partOfFraction_1 : decode cX6_partOfFraction 1 = .ok (.istore_n 3, 1) := by decide +kernel
theorem dX6_partOfFraction_2 : decode cX6_partOfFraction 2 = .ok (.iload_n 1, 1) := by decide +kernel
theorem dX6_partOfFraction_3 : decode cX6_partOfFraction 3 = .ok (.istore 4, 2) := by decide +kernel
theorem dX6_partOfFraction_5 : decode cX6_partOfFraction 5 = .ok (.iload 4, 2) := by decide +kernel
theorem dX6_partOfFraction_7 : decode cX6_partOfFraction 7 = .ok (.iconst 1, 1) := by decide +kernel
theorem dX6_partOfFraction_8 : decode cX6_partOfFraction 8 = .ok (.if_icmp .le 22, 3) := by decide +kernel
theorem dX6_partOfFraction_11 : decode cX6_partOfFraction 11 = .ok (.iload_n 3, 1) := by decide +kernel
theorem dX6_partOfFraction_12 : decode cX6_partOfFraction 12 = .ok (.iconst 2, 1) := by decide +kernel
theorem dX6_partOfFraction_13 : decode cX6_partOfFraction 13 = .ok (.irem, 1) := by decide +kernel
theorem dX6_partOfFraction_14 : decode cX6_partOfFraction 14 = .ok (.ifCond .ne 16, 3) := by decide +kernel
theorem dX6_partOfFraction_17 : decode cX6_partOfFraction 17 = .ok (.iload_n 3, 1) := by decide +kernel
theorem dX6_partOfFraction_18 : decode cX6_partOfFraction 18 = .ok (.iconst 2, 1) := by decide +kernel
theorem dX6_partOfFraction_19 : decode cX6_partOfFraction 19 = .ok (.idiv, 1) := by decide +kernel
theorem dX6_partOfFraction_20 : decode cX6_partOfFraction 20 = .ok (.istore_n 3, 1) := by decide +kernel
theorem dX6_partOfFraction_21 : decode cX6_partOfFraction 21 = .ok (.iload 4, 2) := by decide +kernel
theorem dX6_partOfFraction_23 : decode cX6_partOfFraction 23 = .ok (.iconst 2, 1) := by decide +kernel
theorem dX6_partOfFraction_24 : decode cX6_partOfFraction 24 = .ok (.idiv, 1) := by decide +kernel
theorem dX6_partOfFraction_25 : decode cX6_partOfFraction 25 = .ok (.istore 4, 2) := by decide +kernel
theorem dX6_partOfFraction_27 : decode cX6_partOfFraction 27 = .ok (.goto (-22), 3) := by decide +kernel
theorem dX6_partOfFraction_30 : decode cX6_partOfFraction 30 = .ok (.iload_n 2, 1) := by decide +kernel
theorem dX6_partOfFraction_31 : decode cX6_partOfFraction 31 = .ok (.ifCond .ne 8, 3) := by decide +kernel
theorem dX6_partOfFraction_34 : decode cX6_partOfFraction 34 = .ok (.iload_n 3, 1) := by decide +kernel
theorem dX6_partOfFraction_35 : decode cX6_partOfFraction 35 = .ok (.i2l, 1) := by decide +kernel
theorem dX6_partOfFraction_36 : decode cX6_partOfFraction 36 = .ok (.goto 6, 3) := by decide +kernel
theorem dX6_partOfFraction_39 : decode cX6_partOfFraction 39 = .ok (.iload 4, 2) := by decide +kernel
theorem dX6_partOfFraction_41 : decode cX6_partOfFraction 41 = .ok (.i2l, 1) := by decide +kernel
theorem dX6_partOfFraction_42 : decode cX6_partOfFraction 42 = .ok (.lreturn, 1) := by decide +kernel
theorem dX7_init_0 : decode cX7_init 0 = .ok (.aload_n 0, 1) := by decide +kernel
theorem dX7_init_1 : decode cX7_init 1 = .ok (.invokespecial 1, 3) := by decide +kernel
theorem dX7_init_4 : decode cX7_init 4 = .ok (.aload_n 0, 1) := by decide +kernel
theorem dX7_init_5 : decode cX7_init 5 = .ok (.iconst 4, 1) := by decide +kernel
theorem dX7_init_6 : decode cX7_init 6 = .ok (.newarray .int, 2) := by decide +kernel
theorem dX7_init_8 : decode cX7_init 8 = .ok (.putfield 7, 3) := by decide +kernel
theorem dX7_init_11 : decode cX7_init 11 = .ok (.aload_n 0, 1) := by decide +kernel
theorem dX7_init_12 : decode cX7_init 12 = .ok (.iconst 4, 1) := by decide +kernel
theorem dX7_init_13 : decode cX7_init 13 = .ok (.newarray .int, 2) := by decide +kernel
theorem dX7_init_15 : decode cX7_init 15 = .ok (.putfield 13, 3) := by decide +kernel
theorem dX7_init_18 : decode cX7_init 18 = .ok (.aload_n 0, 1) := by decide +kernel
theorem dX7_init_19 : decode cX7_init 19 = .ok (.sipush 240, 3) := by decide +kernel
theorem dX7_init_22 : decode cX7_init 22 = .ok (.newarray .int, 2) := by decide +kernel
theorem dX7_init_24 : decode cX7_init 24 = .ok (.putfield 16, 3) := by decide +kernel
theorem dX7_init_27 : decode cX7_init 27 = .ok (.aload_n 0, 1) := by decide +kernel
theorem dX7_init_28 : decode cX7_init 28 = .ok (.bipush 60, 2) := by decide +kernel
theorem dX7_init_30 : decode cX7_init 30 = .ok (.newarray .int, 2) := by decide +kernel
theorem dX7_init_32 : decode cX7_init 32 = .ok (.putfield 19, 3) := by decide +kernel
theorem dX7_init_35 : decode cX7_init 35 = .ok (.aload_n 0, 1) := by decide +kernel
theorem dX7_init_36 : decode cX7_init 36 = .ok (.sipush 180, 3) := by decide +kernel
theorem dX7_init_39 : decode cX7_init 39 = .ok (.newarray .int, 2) := by decide +kernel
theorem dX7_init_41 : decode cX7_init 41 = .ok (.putfield 22, 3) := by decide +kernel
theorem dX7_init_44 : decode cX7_init 44 = .ok (.aload_n 0, 1) := by decide +kernel
theorem dX7_init_45 : decode cX7_init 45 = .ok (.iconst 3, 1) := by decide +kernel
theorem dX7_init_46 : decode cX7_init 46 = .ok (.newarray .int, 2) := by decide +kernel
theorem dX7_init_48 : decode cX7_init 48 = .ok (.putfield 25, 3) := by decide +kernel
theorem dX7_init_51 : decode cX7_init 51 = .ok (.aload_n 0, 1) := by decide +kernel
theorem dX7_init_52 : decode cX7_init 52 = .ok (.iconst 3, 1) := by decide +kernel
theorem dX7_init_53 : decode cX7_init 53 = .ok (.newarray .int, 2) := by decide +kernel
theorem dX7_init_55 : decode cX7_init 55 = .ok (.putfield 28, 3) := by decide +kernel
theorem dX7_init_58 : decode cX7_init 58 = .ok (.aload_n 0, 1) := by decide +kernel
theorem dX7_init_59 : decode cX7_init 59 = .ok (.bipush 12, 2) := by decide +kernel
theorem dX7_init_61 : decode cX7_init 61 = .ok (.newarray .int, 2) := by decide +kernel
theorem dX7_init_63 : decode cX7_init 63 = .ok (.putfield 31, 3) := by decide +kernel
theorem dX7_init_66 : decode cX7_init 66 = .ok (.aload_n 0, 1) := by decide +kernel
theorem dX7_init_67 : decode cX7_init 67 = .ok (.bipush 24, 2) := by decide +kernel
theorem dX7_init_69 : decode cX7_init 69 = .ok (.newarray .int, 2) := by decide +kernel
theorem dX7_init_71 : decode cX7_init 71 = .ok (.putfield 34, 3) := by decide +kernel
theorem dX7_init_74 : decode cX7_init 74 = .ok (.aload_n 0, 1) := by decide +kernel
theorem dX7_init_75 : decode cX7_init 75 = .ok (.bipush 36, 2) := by decide +kernel
theorem dX7_init_77 : decode cX7_init 77 = .ok (.newarray .int, 2) := by decide +kernel
theorem dX7_init_79 : decode cX7_init 79 = .ok (.putfield 37, 3) := by decide +kernel
theorem dX7_init_82 : decode cX7_init 82 = .ok (.aload_n 0, 1) := by decide +kernel
theorem dX7_init_83 : decode cX7_init 83 = .ok (.bipush 24, 2) := by decide +kernel
theorem dX7_init_85 : decode cX7_init 85 = .ok (.newarray .int, 2) := by decide +kernel
theorem dX7_init_87 : decode cX7_init 87 = .ok (.putfield 40, 3) := by decide +kernel
theorem dX7_init_90 : decode cX7_init 90 = .ok (.aload_n 0, 1) := by decide +kernel
theorem dX7_init_91 : decode cX7_init 91 = .ok (.bipush 8, 2) := by decide +kernel
theorem dX7_init_93 : decode cX7_init 93 = .ok (.newarray .int, 2) := by decide +kernel
theorem dX7_init_95 : decode cX7_init 95 = .ok (.putfield 43, 3) := by decide +kernel
theorem dX7_init_98 : decode cX7_init 98 = .ok (.aload_n 0, 1) := by decide +kernel
theorem dX7_init_99 : decode cX7_init 99 = .ok (.bipush 6, 2) := by decide +kernel
theorem dX7_init_101 : decode cX7_init 101 = .ok (.newarray .int, 2) := by decide +kernel
theorem dX7_init_103 : decode cX7_init 103 = .ok (.putfield 46, 3) := by decide +kernel
theorem dX7_init_106 : decode cX7_init 106 = .ok (.aload_n 0, 1) := by decide +kernel
theorem dX7_init_107 : decode cX7_init 107 = .ok (.bipush 16, 2) := by decide +kernel
theorem dX7_init_109 : decode cX7_init 109 = .ok (.newarray .int, 2) := by decide +kernel
theorem dX7_init_111 : decode cX7_init 111 = .ok (.putfield 49, 3) := by decide +kernel
theorem dX7_init_114 : decode cX7_init 114 = .ok (.aload_n 0, 1) := by decide +kernel
theorem dX7_init_115 : decode cX7_init 115 = .ok (.sipush 256, 3) := by decide +kernel
theorem dX7_init_118 : decode cX7_init 118 = .ok (.newarray .int, 2) := by decide +kernel
theorem dX7_init_120 : decode cX7_init 120 = .ok (.putfield 52, 3) := by decide +kernel
theorem dX7_init_123 : decode cX7_init 123 = .ok (.iconst 0, 1) := by decide +kernel
theorem dX7_init_124 : decode cX7_init 124 = .ok (.istore_n 1, 1) := by decide +kernel
theorem dX7_init_125 : decode cX7_init 125 = .ok (.iload_n 1, 1) := by decide +kernel
theorem dX7_init_126 : decode cX7_init 126 = .ok (.iconst 4, 1) := by decide +kernel
theorem dX7_init_127 : decode cX7_init 127 = .ok (.if_icmp .ge 16, 3) := by decide +kernel
theorem dX7_init_130 : decode cX7_init 130 = .ok (.aload_n 0, 1) := by decide +kernel
theorem dX7_init_131 : decode cX7_init 131 = .ok (.getfield 7, 3) := by decide +kernel
theorem dX7_init_134 : decode cX7_init 134 = .ok (.iload_n 1, 1) := by decide +kernel
theorem dX7_init_135 : decode cX7_init 135 = .ok (.iconst (-1), 1) := by decide +kernel
theorem dX7_init_136 : decode cX7_init 136 = .ok (.iastore, 1) := by decide +kernel
theorem dX7_init_137 : decode cX7_init 137 = .ok (.iinc 1 1, 3) := by decide +kernel
theorem dX7_init_140 : decode cX7_init 140 = .ok (.goto (-15), 3) := by decide +kernel
theorem dX7_init_143 : decode cX7_init 143 = .ok (.aload_n 0, 1) := by decide +kernel
theorem dX7_init_144 : decode cX7_init 144 = .ok (.sipush 255, 3) := by decide +kernel
theorem dX7_init_147 : decode cX7_init 147 = .ok (.putfield 55, 3) := by decide +kernel
theorem dX7_init_150 : decode cX7_init 150 = .ok (.return_, 1) := by decide +kernel
theorem dX7_in_0 : decode cX7_in 0 = .ok (.lload_n 0, 1) := by decide +kernel
theorem dX7_in_1 : decode cX7_in 1 = .ok (.lload_n 2, 1) := by decide +kernel
theorem dX7_in_2 : decode cX7_in 2 = .ok (.lcmp, 1) := by decide +kernel
theorem dX7_in_3 : decode cX7_in 3 = .ok (.ifCond .lt 14, 3) := by decide +kernel
theorem dX7_in_6 : decode cX7_in 6 = .ok (.lload_n 0, 1) := by decide +kernel
theorem dX7_in_7 : decode cX7_in 7 = .ok (.lload 4, 2) := by decide +kernel
theorem dX7_in_9 : decode cX7_in 9 = .ok (.lcmp, 1) := by decide +kernel
theorem dX7_in_10 : decode cX7_in 10 = .ok (.ifCond .gt 7, 3) := by decide +kernel
theorem dX7_in_13 : decode cX7_in 13 = .ok (.iconst 1, 1) := by decide +kernel
theorem dX7_in_14 : decode cX7_in 14 = .ok (.goto 4, 3) := by decide +kernel
theorem dX7_in_17 : decode cX7_in 17 = .ok (.iconst 0, 1) := by decide +kernel
theorem dX7_in_18 : decode cX7_in 18 = .ok (.ireturn, 1) := by decide +kernel
theorem dX7_no_0 : decode cX7_no 0 = .ok (.ldc2_w 59, 3) := by decide +kernel
theorem dX7_no_3 : decode cX7_no 3 = .ok (.iload_n 0, 1) := by decide +kernel
theorem dX7_no_4 : decode cX7_no 4 = .ok (.i2l, 1) := by decide +kernel
theorem dX7_no_5 : decode cX7_no 5 = .ok (.lsub, 1) := by decide +kernel
theorem dX7_no_6 : decode cX7_no 6 = .ok (.lreturn, 1) := by decide +kernel
theorem dX7_isTwo_0 : decode cX7_isTwo 0 = .ok (.iload_n 0, 1) := by decide +kernel
theorem dX7_isTwo_1 : decode cX7_isTwo 1 = .ok (.i2l, 1) := by decide +kernel
theorem dX7_isTwo_2 : decode cX7_isTwo 2 = .ok (.lconst 0, 1) := by decide +kernel
theorem dX7_isTwo_3 : decode cX7_isTwo 3 = .ok (.lconst 1, 1) := by decide +kernel
theorem dX7_isTwo_4 : decode cX7_isTwo 4 = .ok (.invokestatic 61, 3) := by decide +kernel
theorem dX7_isTwo_7 : decode cX7_isTwo 7 = .ok (.ireturn, 1) := by decide +kernel
theorem dX7_isIn_0 : decode cX7_isIn 0 = .ok (.iload_n 0, 1) := by decide +kernel
theorem dX7_isIn_1 : decode cX7_isIn 1 = .ok (.iload_n 1, 1) := by decide +kernel
theorem dX7_isIn_2 : decode cX7_isIn 2 = .ok (.ishr, 1) := by decide +kernel
theorem dX7_isIn_3 : decode cX7_isIn 3 = .ok (.iconst 1, 1) := by decide +kernel
theorem dX7_isIn_4 : decode cX7_isIn 4 = .ok (.iand, 1) := by decide +kernel
theorem dX7_isIn_5 : decode cX7_isIn 5 = .ok (.iconst 1, 1) := by decide +kernel
theorem dX7_isIn_6 : decode cX7_isIn 6 = .ok (.if_icmp .ne 7, 3) := by decide +kernel
theorem dX7_isIn_9 : decode cX7_isIn 9 = .ok (.iconst 1, 1) := by decide +kernel
theorem dX7_isIn_10 : decode cX7_isIn 10 = .ok (.goto 4, 3) := by decide +kernel
theorem dX7_isIn_13 : decode cX7_isIn 13 = .ok (.iconst 0, 1) := by decide +kernel
theorem dX7_isIn_14 : decode cX7_isIn 14 = .ok (.ireturn, 1) := by decide +kernel
theorem dX7_ones_0 : decode cX7_ones 0 = .ok (.iconst 0, 1) := by decide +kernel
theorem dX7_ones_1 : decode cX7_ones 1 = .ok (.istore_n 1, 1) := by decide +kernel
theorem dX7_ones_2 : decode cX7_ones 2 = .ok (.iload_n 0, 1) := by decide +kernel
theorem dX7_ones_3 : decode cX7_ones 3 = .ok (.istore_n 2, 1) := by decide +kernel
theorem dX7_ones_4 : decode cX7_ones 4 = .ok (.iload_n 2, 1) := by decide +kernel
theorem dX7_ones_5 : decode cX7_ones 5 = .ok (.ifCond .eq 15, 3) := by decide +kernel
theorem dX7_ones_8 : decode cX7_ones 8 = .ok (.iinc 1 1, 3) := by decide +kernel
theorem dX7_ones_11 : decode cX7_ones 11 = .ok (.iload_n 2, 1) := by decide +kernel
theorem dX7_ones_12 : decode cX7_ones 12 = .ok (.iload_n 2, 1) := by decide +kernel
theorem dX7_ones_13 : decode cX7_ones 13 = .ok (.iconst 1, 1) := by decide +kernel
theorem dX7_ones_14 : decode cX7_ones 14 = .ok (.isub, 1) := by decide +kernel
theorem dX7_ones_15 : decode cX7_ones 15 = .ok (.iand, 1) := by decide +kernel
theorem dX7_ones_16 : decode cX7_ones 16 = .ok (.istore_n 2, 1) := by decide +kernel
theorem dX7_ones_17 : decode cX7_ones 17 = .ok (.goto (-13), 3) := by decide +kernel
theorem dX7_ones_20 : decode cX7_ones 20 = .ok (.iload_n 1, 1) := by decide +kernel
theorem dX7_ones_21 : decode cX7_ones 21 = .ok (.ireturn, 1) := by decide +kernel
theorem dX7_lesser_0 : decode cX7_lesser 0 = .ok (.iload_n 0, 1) := by decide +kernel
theorem dX7_lesser_1 : decode cX7_lesser 1 = .ok (.iload_n 1, 1) := by decide +kernel
theorem dX7_lesser_2 : decode cX7_lesser 2 = .ok (.if_icmp .ge 7, 3) := by decide +kernel
theorem dX7_lesser_5 : decode cX7_lesser 5 = .ok (.iload_n 0, 1) := by decide +kernel
theorem dX7_lesser_6 : decode cX7_lesser 6 = .ok (.goto 4, 3) := by decide +kernel
theorem dX7_lesser_9 : decode cX7_lesser 9 = .ok (.iload_n 1, 1) := by decide +kernel
theorem dX7_lesser_10 : decode cX7_lesser 10 = .ok (.ireturn, 1) := by decide +kernel
theorem dX7_part_0 : decode cX7_part 0 = .ok (.lload_n 0, 1) := by decide +kernel
theorem dX7_part_1 : decode cX7_part 1 = .ok (.lstore 5, 2) := by decide +kernel
theorem dX7_part_3 : decode cX7_part 3 = .ok (.lload_n 2, 1) := by decide +kernel
theorem dX7_part_4 : decode cX7_part 4 = .ok (.lstore 7, 2) := by decide +kernel
theorem dX7_part_6 : decode cX7_part 6 = .ok (.lload 7, 2) := by decide +kernel
theorem dX7_part_8 : decode cX7_part 8 = .ok (.lconst 0, 1) := by decide +kernel
theorem dX7_part_9 : decode cX7_part 9 = .ok (.lcmp, 1) := by decide +kernel
theorem dX7_part_10 : decode cX7_part 10 = .ok (.ifCond .eq 21, 3) := by decide +kernel
theorem dX7_part_13 : decode cX7_part 13 = .ok (.lload 5, 2) := by decide +kernel
theorem dX7_part_15 : decode cX7_part 15 = .ok (.lload 7, 2) := by decide +kernel
theorem dX7_part_17 : decode cX7_part 17 = .ok (.lrem, 1) := by decide +kernel
theorem dX7_part_18 : decode cX7_part 18 = .ok (.lstore 9, 2) := by decide +kernel
theorem dX7_part_20 : decode cX7_part 20 = .ok (.lload 7, 2) := by decide +kernel
theorem dX7_part_22 : decode cX7_part 22 = .ok (.lstore 5, 2) := by decide +kernel
theorem dX7_part_24 : decode cX7_part 24 = .ok (.lload 9, 2) := by decide +kernel
theorem dX7_part_26 : decode cX7_part 26 = .ok (.lstore 7, 2) := by decide +kernel
theorem dX7_part_28 : decode cX7_part 28 = .ok (.goto (-22), 3) := by decide +kernel
theorem dX7_part_31 : decode cX7_part 31 = .ok (.iload 4, 2) := by decide +kernel
theorem dX7_part_33 : decode cX7_part 33 = .ok (.ifCond .ne 7, 3) := by decide +kernel
theorem dX7_part_36 : decode cX7_part 36 = .ok (.lload_n 0, 1) := by decide +kernel
theorem dX7_part_37 : decode cX7_part 37 = .ok (.goto 4, 3) := by decide +kernel
theorem dX7_part_40 : decode cX7_part 40 = .ok (.lload_n 2, 1) := by decide +kernel
theorem dX7_part_41 : decode cX7_part 41 = .ok (.lload 5, 2) := by decide +kernel
theorem dX7_part_43 : decode cX7_part 43 = .ok (.ldiv, 1) := by decide +kernel
theorem dX7_part_44 : decode cX7_part 44 = .ok (.lreturn, 1) := by decide +kernel
theorem dX7_finds_0 : decode cX7_finds 0 = .ok (.aload_n 0, 1) := by decide +kernel
theorem dX7_finds_1 : decode cX7_finds 1 = .ok (.iload_n 1, 1) := by decide +kernel
theorem dX7_finds_2 : decode cX7_finds 2 = .ok (.putfield 65, 3) := by decide +kernel
theorem dX7_finds_5 : decode cX7_finds 5 = .ok (.bipush (-10), 2) := by decide +kernel
theorem dX7_finds_7 : decode cX7_finds 7 = .ok (.iload_n 1, 1) := by decide +kernel
theorem dX7_finds_8 : decode cX7_finds 8 = .ok (.isub, 1) := by decide +kernel
theorem dX7_finds_9 : decode cX7_finds 9 = .ok (.ireturn, 1) := by decide +kernel
theorem dX7_isSheet_0 : decode cX7_isSheet 0 = .ok (.iload_n 0, 1) := by decide +kernel
theorem dX7_isSheet_1 : decode cX7_isSheet 1 = .ok (.i2l, 1) := by decide +kernel
theorem dX7_isSheet_2 : decode cX7_isSheet 2 = .ok (.lconst 0, 1) := by decide +kernel
theorem dX7_isSheet_3 : decode cX7_isSheet 3 = .ok (.ldc2_w 68, 3) := by decide +kernel
theorem dX7_isSheet_6 : decode cX7_isSheet 6 = .ok (.invokestatic 61, 3) := by decide +kernel
theorem dX7_isSheet_9 : decode cX7_isSheet 9 = .ok (.ireturn, 1) := by decide +kernel
theorem dX7_sheet_0 : decode cX7_sheet 0 = .ok (.iload_n 1, 1) := by decide +kernel
theorem dX7_sheet_1 : decode cX7_sheet 1 = .ok (.invokestatic 70, 3) := by decide +kernel
theorem dX7_sheet_4 : decode cX7_sheet 4 = .ok (.ifCond .eq 21, 3) := by decide +kernel
theorem dX7_sheet_7 : decode cX7_sheet 7 = .ok (.iload_n 2, 1) := by decide +kernel
theorem dX7_sheet_8 : decode cX7_sheet 8 = .ok (.i2l, 1) := by decide +kernel
theorem dX7_sheet_9 : decode cX7_sheet 9 = .ok (.lconst 0, 1) := by decide +kernel
theorem dX7_sheet_10 : decode cX7_sheet 10 = .ok (.ldc2_w 74, 3) := by decide +kernel
theorem dX7_sheet_13 : decode cX7_sheet 13 = .ok (.invokestatic 61, 3) := by decide +kernel
theorem dX7_sheet_16 : decode cX7_sheet 16 = .ok (.ifCond .eq 9, 3) := by decide +kernel
theorem dX7_sheet_19 : decode cX7_sheet 19 = .ok (.iload_n 3, 1) := by decide +kernel
theorem dX7_sheet_20 : decode cX7_sheet 20 = .ok (.bipush 60, 2) := by decide +kernel
theorem dX7_sheet_22 : decode cX7_sheet 22 = .ok (.if_icmp .le 6, 3) := by decide +kernel
theorem dX7_sheet_25 : decode cX7_sheet 25 = .ok (.bipush (-2), 2) := by decide +kernel
theorem dX7_sheet_27 : decode cX7_sheet 27 = .ok (.ireturn, 1) := by decide +kernel
theorem dX7_sheet_28 : decode cX7_sheet 28 = .ok (.iload_n 3, 1) := by decide +kernel
theorem dX7_sheet_29 : decode cX7_sheet 29 = .ok (.ifCond .ge 9, 3) := by decide +kernel
theorem dX7_sheet_32 : decode cX7_sheet 32 = .ok (.aload_n 0, 1) := by decide +kernel
theorem dX7_sheet_33 : decode cX7_sheet 33 = .ok (.iconst 5, 1) := by decide +kernel
theorem dX7_sheet_34 : decode cX7_sheet 34 = .ok (.invokevirtual 76, 3) := by decide +kernel
theorem dX7_sheet_37 : decode cX7_sheet 37 = .ok (.ireturn, 1) := by decide +kernel
theorem dX7_sheet_38 : decode cX7_sheet 38 = .ok (.aload_n 0, 1) := by decide +kernel
theorem dX7_sheet_39 : decode cX7_sheet 39 = .ok (.getfield 7, 3) := by decide +kernel
theorem dX7_sheet_42 : decode cX7_sheet 42 = .ok (.iload_n 1, 1) := by decide +kernel
theorem dX7_sheet_43 : decode cX7_sheet 43 = .ok (.iload_n 2, 1) := by decide +kernel
theorem dX7_sheet_44 : decode cX7_sheet 44 = .ok (.iastore, 1) := by decide +kernel
theorem dX7_sheet_45 : decode cX7_sheet 45 = .ok (.aload_n 0, 1) := by decide +kernel
theorem dX7_sheet_46 : decode cX7_sheet 46 = .ok (.getfield 13, 3) := by decide +kernel
theorem dX7_sheet_49 : decode cX7_sheet 49 = .ok (.iload_n 1, 1) := by decide +kernel
theorem dX7_sheet_50 : decode cX7_sheet 50 = .ok (.iload_n 3, 1) := by decide +kernel
theorem dX7_sheet_51 : decode cX7_sheet 51 = .ok (.iastore, 1) := by decide +kernel
theorem dX7_sheet_52 : decode cX7_sheet 52 = .ok (.iconst 0, 1) := by decide +kernel
theorem dX7_sheet_53 : decode cX7_sheet 53 = .ok (.istore 4, 2) := by decide +kernel
theorem dX7_sheet_55 : decode cX7_sheet 55 = .ok (.iload 4, 2) := by decide +kernel
theorem dX7_sheet_57 : decode cX7_sheet 57 = .ok (.iload_n 3, 1) := by decide +kernel
theorem dX7_sheet_58 : decode cX7_sheet 58 = .ok (.if_icmp .ge 22, 3) := by decide +kernel
theorem dX7_sheet_61 : decode cX7_sheet 61 = .ok (.aload_n 0, 1) := by decide +kernel
theorem dX7_sheet_62 : decode cX7_sheet 62 = .ok (.getfield 16, 3) := by decide +kernel
theorem dX7_sheet_65 : decode cX7_sheet 65 = .ok (.bipush 60, 2) := by decide +kernel
theorem dX7_sheet_67 : decode cX7_sheet 67 = .ok (.iload_n 1, 1) := by decide +kernel
theorem dX7_sheet_68 : decode cX7_sheet 68 = .ok (.imul, 1) := by decide +kernel
theorem dX7_sheet_69 : decode cX7_sheet 69 = .ok (.iload 4, 2) := by decide +kernel
theorem dX7_sheet_71 : decode cX7_sheet 71 = .ok (.iadd, 1) := by decide +kernel
theorem dX7_sheet_72 : decode cX7_sheet 72 = .ok (.iconst 0, 1) := by decide +kernel
theorem dX7_sheet_73 : decode cX7_sheet 73 = .ok (.iastore, 1) := by decide +kernel
theorem dX7_sheet_74 : decode cX7_sheet 74 = .ok (.iinc 4 1, 3) := by decide +kernel
theorem dX7_sheet_77 : decode cX7_sheet 77 = .ok (.goto (-22), 3) := by decide +kernel
theorem dX7_sheet_80 : decode cX7_sheet 80 = .ok (.iload_n 3, 1) := by decide +kernel
theorem dX7_sheet_81 : decode cX7_sheet 81 = .ok (.ireturn, 1) := by decide +kernel
theorem dX7_lose_0 : decode cX7_lose 0 = .ok (.iload_n 1, 1) := by decide +kernel
theorem dX7_lose_1 : decode cX7_lose 1 = .ok (.invokestatic 70, 3) := by decide +kernel
theorem dX7_lose_4 : decode cX7_lose 4 = .ok (.ifCond .ne 6, 3) := by decide +kernel
theorem dX7_lose_7 : decode cX7_lose 7 = .ok (.bipush (-2), 2) := by decide +kernel
theorem dX7_lose_9 : decode cX7_lose 9 = .ok (.ireturn, 1) := by decide +kernel
theorem dX7_lose_10 : decode cX7_lose 10 = .ok (.aload_n 0, 1) := by decide +kernel
theorem dX7_lose_11 : decode cX7_lose 11 = .ok (.getfield 7, 3) := by decide +kernel
theorem dX7_lose_14 : decode cX7_lose 14 = .ok (.iload_n 1, 1) := by decide +kernel
theorem dX7_lose_15 : decode cX7_lose 15 = .ok (.iaload, 1) := by decide +kernel
theorem dX7_lose_16 : decode cX7_lose 16 = .ok (.ifCond .ge 9, 3) := by decide +kernel
theorem dX7_lose_19 : decode cX7_lose 19 = .ok (.aload_n 0, 1) := by decide +kernel
theorem dX7_lose_20 : decode cX7_lose 20 = .ok (.iconst 1, 1) := by decide +kernel
theorem dX7_lose_21 : decode cX7_lose 21 = .ok (.invokevirtual 76, 3) := by decide +kernel
theorem dX7_lose_24 : decode cX7_lose 24 = .ok (.ireturn, 1) := by decide +kernel
theorem dX7_lose_25 : decode cX7_lose 25 = .ok (.aload_n 0, 1) := by decide +kernel
theorem dX7_lose_26 : decode cX7_lose 26 = .ok (.getfield 7, 3) := by decide +kernel
theorem dX7_lose_29 : decode cX7_lose 29 = .ok (.iload_n 1, 1) := by decide +kernel
theorem dX7_lose_30 : decode cX7_lose 30 = .ok (.iconst (-1), 1) := by decide +kernel
theorem dX7_lose_31 : decode cX7_lose 31 = .ok (.iastore, 1) := by decide +kernel
theorem dX7_lose_32 : decode cX7_lose 32 = .ok (.aload_n 0, 1) := by decide +kernel
theorem dX7_lose_33 : decode cX7_lose 33 = .ok (.getfield 13, 3) := by decide +kernel
theorem dX7_lose_36 : decode cX7_lose 36 = .ok (.iload_n 1, 1) := by decide +kernel
theorem dX7_lose_37 : decode cX7_lose 37 = .ok (.iaload, 1) := by decide +kernel
theorem dX7_lose_38 : decode cX7_lose 38 = .ok (.ireturn, 1) := by decide +kernel
theorem dX7_lacks_0 : decode cX7_lacks 0 = .ok (.aload_n 0, 1) := by decide +kernel
theorem dX7_lacks_1 : decode cX7_lacks 1 = .ok (.getfield 7, 3) := by decide +kernel
theorem dX7_lacks_4 : decode cX7_lacks 4 = .ok (.iload_n 1, 1) := by decide +kernel
theorem dX7_lacks_5 : decode cX7_lacks 5 = .ok (.iaload, 1) := by decide +kernel
theorem dX7_lacks_6 : decode cX7_lacks 6 = .ok (.ifCond .ge 9, 3) := by decide +kernel
theorem dX7_lacks_9 : decode cX7_lacks 9 = .ok (.aload_n 0, 1) := by decide +kernel
theorem dX7_lacks_10 : decode cX7_lacks 10 = .ok (.iconst 1, 1) := by decide +kernel
theorem dX7_lacks_11 : decode cX7_lacks 11 = .ok (.invokevirtual 76, 3) := by decide +kernel
theorem dX7_lacks_14 : decode cX7_lacks 14 = .ok (.ireturn, 1) := by decide +kernel
theorem dX7_lacks_15 : decode cX7_lacks 15 = .ok (.aload_n 0, 1) := by decide +kernel
theorem dX7_lacks_16 : decode cX7_lacks 16 = .ok (.getfield 7, 3) := by decide +kernel
theorem dX7_lacks_19 : decode cX7_lacks 19 = .ok (.iload_n 1, 1) := by decide +kernel
theorem dX7_lacks_20 : decode cX7_lacks 20 = .ok (.iaload, 1) := by decide +kernel
theorem dX7_lacks_21 : decode cX7_lacks 21 = .ok (.iload_n 2, 1) := by decide +kernel
theorem dX7_lacks_22 : decode cX7_lacks 22 = .ok (.if_icmp .eq 9, 3) := by decide +kernel
theorem dX7_lacks_25 : decode cX7_lacks 25 = .ok (.aload_n 0, 1) := by decide +kernel
theorem dX7_lacks_26 : decode cX7_lacks 26 = .ok (.iconst 3, 1) := by decide +kernel
theorem dX7_lacks_27 : decode cX7_lacks 27 = .ok (.invokevirtual 76, 3) := by decide +kernel
theorem dX7_lacks_30 : decode cX7_lacks 30 = .ok (.ireturn, 1) := by decide +kernel
theorem dX7_lacks_31 : decode cX7_lacks 31 = .ok (.iload_n 3, 1) := by decide +kernel
theorem dX7_lacks_32 : decode cX7_lacks 32 = .ok (.i2l, 1) := by decide +kernel
theorem dX7_lacks_33 : decode cX7_lacks 33 = .ok (.lconst 0, 1) := by decide +kernel
theorem dX7_lacks_34 : decode cX7_lacks 34 = .ok (.aload_n 0, 1) := by decide +kernel
theorem dX7_lacks_35 : decode cX7_lacks 35 = .ok (.getfield 13, 3) := by decide +kernel
theorem dX7_lacks_38 : decode cX7_lacks 38 = .ok (.iload_n 1, 1) := by decide +kernel
theorem dX7_lacks_39 : decode cX7_lacks 39 = .ok (.iaload, 1) := by decide +kernel
theorem dX7_lacks_40 : decode cX7_lacks 40 = .ok (.iconst 1, 1) := by decide +kernel
theorem dX7_lacks_41 : decode cX7_lacks 41 = .ok (.isub, 1) := by decide +kernel
theorem dX7_lacks_42 : decode cX7_lacks 42 = .ok (.i2l, 1) := by decide +kernel
theorem dX7_lacks_43 : decode cX7_lacks 43 = .ok (.invokestatic 61, 3) := by decide +kernel
theorem dX7_lacks_46 : decode cX7_lacks 46 = .ok (.ifCond .eq 7, 3) := by decide +kernel
theorem dX7_lacks_49 : decode cX7_lacks 49 = .ok (.iconst 0, 1) := by decide +kernel
theorem dX7_lacks_50 : decode cX7_lacks 50 = .ok (.goto 8, 3) := by decide +kernel
theorem dX7_lacks_53 : decode cX7_lacks 53 = .ok (.aload_n 0, 1) := by decide +kernel
theorem dX7_lacks_54 : decode cX7_lacks 54 = .ok (.iconst 2, 1) := by decide +kernel
theorem dX7_lacks_55 : decode cX7_lacks 55 = .ok (.invokevirtual 76, 3) := by decide +kernel
theorem dX7_lacks_58 : decode cX7_lacks 58 = .ok (.ireturn, 1) := by decide +kernel
theorem dX7_cut_0 : decode cX7_cut 0 = .ok (.iload_n 0, 1) := by decide +kernel
theorem dX7_cut_1 : decode cX7_cut 1 = .ok (.ifCond .ne 8, 3) := by decide +kernel
theorem dX7_cut_4 : decode cX7_cut 4 = .ok (.iload_n 1, 1) := by decide +kernel
theorem dX7_cut_5 : decode cX7_cut 5 = .ok (.i2b, 1) := by decide +kernel
theorem dX7_cut_6 : decode cX7_cut 6 = .ok (.goto 14, 3) := by decide +kernel
theorem dX7_cut_9 : decode cX7_cut 9 = .ok (.iload_n 0, 1) := by decide +kernel
theorem dX7_cut_10 : decode cX7_cut 10 = .ok (.iconst 1, 1) := by decide +kernel
theorem dX7_cut_11 : decode cX7_cut 11 = .ok (.if_icmp .ne 8, 3) := by decide +kernel
theorem dX7_cut_14 : decode cX7_cut 14 = .ok (.iload_n 1, 1) := by decide +kernel
theorem dX7_cut_15 : decode cX7_cut 15 = .ok (.i2s, 1) := by decide +kernel
theorem dX7_cut_16 : decode cX7_cut 16 = .ok (.goto 4, 3) := by decide +kernel
theorem dX7_cut_19 : decode cX7_cut 19 = .ok (.iload_n 1, 1) := by decide +kernel
theorem dX7_cut_20 : decode cX7_cut 20 = .ok (.ireturn, 1) := by decide +kernel
theorem dX7_lay_0 : decode cX7_lay 0 = .ok (.iload_n 1, 1) := by decide +kernel
theorem dX7_lay_1 : decode cX7_lay 1 = .ok (.invokestatic 70, 3) := by decide +kernel
theorem dX7_lay_4 : decode cX7_lay 4 = .ok (.ifCond .eq 15, 3) := by decide +kernel
theorem dX7_lay_7 : decode cX7_lay 7 = .ok (.iload_n 2, 1) := by decide +kernel
theorem dX7_lay_8 : decode cX7_lay 8 = .ok (.i2l, 1) := by decide +kernel
theorem dX7_lay_9 : decode cX7_lay 9 = .ok (.lconst 0, 1) := by decide +kernel
theorem dX7_lay_10 : decode cX7_lay 10 = .ok (.ldc2_w 74, 3) := by decide +kernel
theorem dX7_lay_13 : decode cX7_lay 13 = .ok (.invokestatic 61, 3) := by decide +kernel
theorem dX7_lay_16 : decode cX7_lay 16 = .ok (.ifCond .ne 6, 3) := by decide +kernel
theorem dX7_lay_19 : decode cX7_lay 19 = .ok (.bipush (-2), 2) := by decide +kernel
theorem dX7_lay_21 : decode cX7_lay 21 = .ok (.ireturn, 1) := by decide +kernel
theorem dX7_lay_22 : decode cX7_lay 22 = .ok (.aload_n 0, 1) := by decide +kernel
theorem dX7_lay_23 : decode cX7_lay 23 = .ok (.iload_n 1, 1) := by decide +kernel
theorem dX7_lay_24 : decode cX7_lay 24 = .ok (.iload_n 2, 1) := by decide +kernel
theorem dX7_lay_25 : decode cX7_lay 25 = .ok (.iload_n 3, 1) := by decide +kernel
theorem dX7_lay_26 : decode cX7_lay 26 = .ok (.invokevirtual 80, 3) := by decide +kernel
theorem dX7_lay_29 : decode cX7_lay 29 = .ok (.istore 5, 2) := by decide +kernel
theorem dX7_lay_31 : decode cX7_lay 31 = .ok (.iload 5, 2) := by decide +kernel
theorem dX7_lay_33 : decode cX7_lay 33 = .ok (.ifCond .eq 6, 3) := by decide +kernel
theorem dX7_lay_36 : decode cX7_lay 36 = .ok (.iload 5, 2) := by decide +kernel
theorem dX7_lay_38 : decode cX7_lay 38 = .ok (.ireturn, 1) := by decide +kernel
theorem dX7_lay_39 : decode cX7_lay 39 = .ok (.aload_n 0, 1) := by decide +kernel
theorem dX7_lay_40 : decode cX7_lay 40 = .ok (.getfield 16, 3) := by decide +kernel
theorem dX7_lay_43 : decode cX7_lay 43 = .ok (.bipush 60, 2) := by decide +kernel
theorem dX7_lay_45 : decode cX7_lay 45 = .ok (.iload_n 1, 1) := by decide +kernel
theorem dX7_lay_46 : decode cX7_lay 46 = .ok (.imul, 1) := by decide +kernel
theorem dX7_lay_47 : decode cX7_lay 47 = .ok (.iload_n 3, 1) := by decide +kernel
theorem dX7_lay_48 : decode cX7_lay 48 = .ok (.iadd, 1) := by decide +kernel
theorem dX7_lay_49 : decode cX7_lay 49 = .ok (.iload_n 2, 1) := by decide +kernel
theorem dX7_lay_50 : decode cX7_lay 50 = .ok (.iload 4, 2) := by decide +kernel
theorem dX7_lay_52 : decode cX7_lay 52 = .ok (.invokestatic 84, 3) := by decide +kernel
theorem dX7_lay_55 : decode cX7_lay 55 = .ok (.iastore, 1) := by decide +kernel
theorem dX7_lay_56 : decode cX7_lay 56 = .ok (.iconst 1, 1) := by decide +kernel
theorem dX7_lay_57 : decode cX7_lay 57 = .ok (.ireturn, 1) := by decide +kernel
theorem dX7_get_0 : decode cX7_get 0 = .ok (.iload_n 1, 1) := by decide +kernel
theorem dX7_get_1 : decode cX7_get 1 = .ok (.invokestatic 70, 3) := by decide +kernel
theorem dX7_get_4 : decode cX7_get 4 = .ok (.ifCond .eq 25, 3) := by decide +kernel
theorem dX7_get_7 : decode cX7_get 7 = .ok (.iload_n 2, 1) := by decide +kernel
theorem dX7_get_8 : decode cX7_get 8 = .ok (.i2l, 1) := by decide +kernel
theorem dX7_get_9 : decode cX7_get 9 = .ok (.lconst 0, 1) := by decide +kernel
theorem dX7_get_10 : decode cX7_get 10 = .ok (.ldc2_w 74, 3) := by decide +kernel
theorem dX7_get_13 : decode cX7_get 13 = .ok (.invokestatic 61, 3) := by decide +kernel
theorem dX7_get_16 : decode cX7_get 16 = .ok (.ifCond .eq 13, 3) := by decide +kernel
theorem dX7_get_19 : decode cX7_get 19 = .ok (.aload_n 0, 1) := by decide +kernel
theorem dX7_get_20 : decode cX7_get 20 = .ok (.iload_n 1, 1) := by decide +kernel
theorem dX7_get_21 : decode cX7_get 21 = .ok (.iload_n 2, 1) := by decide +kernel
theorem dX7_get_22 : decode cX7_get 22 = .ok (.iload_n 3, 1) := by decide +kernel
theorem dX7_get_23 : decode cX7_get 23 = .ok (.invokevirtual 80, 3) := by decide +kernel
theorem dX7_get_26 : decode cX7_get 26 = .ok (.ifCond .eq 6, 3) := by decide +kernel
theorem dX7_get_29 : decode cX7_get 29 = .ok (.ldc 88, 2) := by decide +kernel
theorem dX7_get_31 : decode cX7_get 31 = .ok (.ireturn, 1) := by decide +kernel
theorem dX7_get_32 : decode cX7_get 32 = .ok (.aload_n 0, 1) := by decide +kernel
theorem dX7_get_33 : decode cX7_get 33 = .ok (.getfield 16, 3) := by decide +kernel
theorem dX7_get_36 : decode cX7_get 36 = .ok (.bipush 60, 2) := by decide +kernel
theorem dX7_get_38 : decode cX7_get 38 = .ok (.iload_n 1, 1) := by decide +kernel
theorem dX7_get_39 : decode cX7_get 39 = .ok (.imul, 1) := by decide +kernel
theorem dX7_get_40 : decode cX7_get 40 = .ok (.iload_n 3, 1) := by decide +kernel
theorem dX7_get_41 : decode cX7_get 41 = .ok (.iadd, 1) := by decide +kernel
theorem dX7_get_42 : decode cX7_get 42 = .ok (.iaload, 1) := by decide +kernel
theorem dX7_get_43 : decode cX7_get 43 = .ok (.ireturn, 1) := by decide +kernel
theorem dX7_copy_0 : decode cX7_copy 0 = .ok (.iload_n 1, 1) := by decide +kernel
theorem dX7_copy_1 : decode cX7_copy 1 = .ok (.invokestatic 70, 3) := by decide +kernel
theorem dX7_copy_4 : decode cX7_copy 4 = .ok (.ifCond .eq 10, 3) := by decide +kernel
theorem dX7_copy_7 : decode cX7_copy 7 = .ok (.iload_n 3, 1) := by decide +kernel
theorem dX7_copy_8 : decode cX7_copy 8 = .ok (.invokestatic 70, 3) := by decide +kernel
theorem dX7_copy_11 : decode cX7_copy 11 = .ok (.ifCond .ne 6, 3) := by decide +kernel
theorem dX7_copy_14 : decode cX7_copy 14 = .ok (.bipush (-2), 2) := by decide +kernel
theorem dX7_copy_16 : decode cX7_copy 16 = .ok (.ireturn, 1) := by decide +kernel
theorem dX7_copy_17 : decode cX7_copy 17 = .ok (.aload_n 0, 1) := by decide +kernel
theorem dX7_copy_18 : decode cX7_copy 18 = .ok (.getfield 7, 3) := by decide +kernel
theorem dX7_copy_21 : decode cX7_copy 21 = .ok (.iload_n 1, 1) := by decide +kernel
theorem dX7_copy_22 : decode cX7_copy 22 = .ok (.iaload, 1) := by decide +kernel
theorem dX7_copy_23 : decode cX7_copy 23 = .ok (.ifCond .lt 12, 3) := by decide +kernel
theorem dX7_copy_26 : decode cX7_copy 26 = .ok (.aload_n 0, 1) := by decide +kernel
theorem dX7_copy_27 : decode cX7_copy 27 = .ok (.getfield 7, 3) := by decide +kernel
theorem dX7_copy_30 : decode cX7_copy 30 = .ok (.iload_n 3, 1) := by decide +kernel
theorem dX7_copy_31 : decode cX7_copy 31 = .ok (.iaload, 1) := by decide +kernel
theorem dX7_copy_32 : decode cX7_copy 32 = .ok (.ifCond .ge 9, 3) := by decide +kernel
theorem dX7_copy_35 : decode cX7_copy 35 = .ok (.aload_n 0, 1) := by decide +kernel
theorem dX7_copy_36 : decode cX7_copy 36 = .ok (.iconst 1, 1) := by decide +kernel
theorem dX7_copy_37 : decode cX7_copy 37 = .ok (.invokevirtual 76, 3) := by decide +kernel
theorem dX7_copy_40 : decode cX7_copy 40 = .ok (.ireturn, 1) := by decide +kernel
theorem dX7_copy_41 : decode cX7_copy 41 = .ok (.aload_n 0, 1) := by decide +kernel
theorem dX7_copy_42 : decode cX7_copy 42 = .ok (.getfield 7, 3) := by decide +kernel
theorem dX7_copy_45 : decode cX7_copy 45 = .ok (.iload_n 1, 1) := by decide +kernel
theorem dX7_copy_46 : decode cX7_copy 46 = .ok (.iaload, 1) := by decide +kernel
theorem dX7_copy_47 : decode cX7_copy 47 = .ok (.aload_n 0, 1) := by decide +kernel
theorem dX7_copy_48 : decode cX7_copy 48 = .ok (.getfield 7, 3) := by decide +kernel
theorem dX7_copy_51 : decode cX7_copy 51 = .ok (.iload_n 3, 1) := by decide +kernel
theorem dX7_copy_52 : decode cX7_copy 52 = .ok (.iaload, 1) := by decide +kernel
theorem dX7_copy_53 : decode cX7_copy 53 = .ok (.if_icmp .eq 9, 3) := by decide +kernel
theorem dX7_copy_56 : decode cX7_copy 56 = .ok (.aload_n 0, 1) := by decide +kernel
theorem dX7_copy_57 : decode cX7_copy 57 = .ok (.iconst 4, 1) := by decide +kernel
theorem dX7_copy_58 : decode cX7_copy 58 = .ok (.invokevirtual 76, 3) := by decide +kernel
theorem dX7_copy_61 : decode cX7_copy 61 = .ok (.ireturn, 1) := by decide +kernel
theorem dX7_copy_62 : decode cX7_copy 62 = .ok (.iload_n 2, 1) := by decide +kernel
theorem dX7_copy_63 : decode cX7_copy 63 = .ok (.ifCond .lt 48, 3) := by decide +kernel
theorem dX7_copy_66 : decode cX7_copy 66 = .ok (.iload 4, 2) := by decide +kernel
theorem dX7_copy_68 : decode cX7_copy 68 = .ok (.ifCond .lt 43, 3) := by decide +kernel
theorem dX7_copy_71 : decode cX7_copy 71 = .ok (.iload 5, 2) := by decide +kernel
theorem dX7_copy_73 : decode cX7_copy 73 = .ok (.ifCond .lt 38, 3) := by decide +kernel
theorem dX7_copy_76 : decode cX7_copy 76 = .ok (.iload_n 2, 1) := by decide +kernel
theorem dX7_copy_77 : decode cX7_copy 77 = .ok (.i2l, 1) := by decide +kernel
theorem dX7_copy_78 : decode cX7_copy 78 = .ok (.iload 5, 2) := by decide +kernel
theorem dX7_copy_80 : decode cX7_copy 80 = .ok (.i2l, 1) := by decide +kernel
theorem dX7_copy_81 : decode cX7_copy 81 = .ok (.ladd, 1) := by decide +kernel
theorem dX7_copy_82 : decode cX7_copy 82 = .ok (.aload_n 0, 1) := by decide +kernel
theorem dX7_copy_83 : decode cX7_copy 83 = .ok (.getfield 13, 3) := by decide +kernel
theorem dX7_copy_86 : decode cX7_copy 86 = .ok (.iload_n 1, 1) := by decide +kernel
theorem dX7_copy_87 : decode cX7_copy 87 = .ok (.iaload, 1) := by decide +kernel
theorem dX7_copy_88 : decode cX7_copy 88 = .ok (.i2l, 1) := by decide +kernel
theorem dX7_copy_89 : decode cX7_copy 89 = .ok (.lcmp, 1) := by decide +kernel
theorem dX7_copy_90 : decode cX7_copy 90 = .ok (.ifCond .gt 21, 3) := by decide +kernel
theorem dX7_copy_93 : decode cX7_copy 93 = .ok (.iload 4, 2) := by decide +kernel
theorem dX7_copy_95 : decode cX7_copy 95 = .ok (.i2l, 1) := by decide +kernel
theorem dX7_copy_96 : decode cX7_copy 96 = .ok (.iload 5, 2) := by decide +kernel
theorem dX7_copy_98 : decode cX7_copy 98 = .ok (.i2l, 1) := by decide +kernel
theorem dX7_copy_99 : decode cX7_copy 99 = .ok (.ladd, 1) := by decide +kernel
theorem dX7_copy_100 : decode cX7_copy 100 = .ok (.aload_n 0, 1) := by decide +kernel
theorem dX7_copy_101 : decode cX7_copy 101 = .ok (.getfield 13, 3) := by decide +kernel
theorem dX7_copy_104 : decode cX7_copy 104 = .ok (.iload_n 3, 1) := by decide +kernel
theorem dX7_copy_105 : decode cX7_copy 105 = .ok (.iaload, 1) := by decide +kernel
theorem dX7_copy_106 : decode cX7_copy 106 = .ok (.i2l, 1) := by decide +kernel
theorem dX7_copy_107 : decode cX7_copy 107 = .ok (.lcmp, 1) := by decide +kernel
theorem dX7_copy_108 : decode cX7_copy 108 = .ok (.ifCond .le 9, 3) := by decide +kernel
theorem dX7_copy_111 : decode cX7_copy 111 = .ok (.aload_n 0, 1) := by decide +kernel
theorem dX7_copy_112 : decode cX7_copy 112 = .ok (.iconst 2, 1) := by decide +kernel
theorem dX7_copy_113 : decode cX7_copy 113 = .ok (.invokevirtual 76, 3) := by decide +kernel
theorem dX7_copy_116 : decode cX7_copy 116 = .ok (.ireturn, 1) := by decide +kernel
theorem dX7_copy_117 : decode cX7_copy 117 = .ok (.iconst 0, 1) := by decide +kernel
theorem dX7_copy_118 : decode cX7_copy 118 = .ok (.istore 6, 2) := by decide +kernel
theorem dX7_copy_120 : decode cX7_copy 120 = .ok (.iload 6, 2) := by decide +kernel
theorem dX7_copy_122 : decode cX7_copy 122 = .ok (.iload 5, 2) := by decide +kernel
theorem dX7_copy_124 : decode cX7_copy 124 = .ok (.if_icmp .ge 30, 3) := by decide +kernel
theorem dX7_copy_127 : decode cX7_copy 127 = .ok (.aload_n 0, 1) := by decide +kernel
theorem dX7_copy_128 : decode cX7_copy 128 = .ok (.getfield 19, 3) := by decide +kernel
theorem dX7_copy_131 : decode cX7_copy 131 = .ok (.iload 6, 2) := by decide +kernel
theorem dX7_copy_133 : decode cX7_copy 133 = .ok (.aload_n 0, 1) := by decide +kernel
theorem dX7_copy_134 : decode cX7_copy 134 = .ok (.getfield 16, 3) := by decide +kernel
theorem dX7_copy_137 : decode cX7_copy 137 = .ok (.bipush 60, 2) := by decide +kernel
theorem dX7_copy_139 : decode cX7_copy 139 = .ok (.iload_n 1, 1) := by decide +kernel
theorem dX7_copy_140 : decode cX7_copy 140 = .ok (.imul, 1) := by decide +kernel
theorem dX7_copy_141 : decode cX7_copy 141 = .ok (.iload_n 2, 1) := by decide +kernel
theorem dX7_copy_142 : decode cX7_copy 142 = .ok (.iadd, 1) := by decide +kernel
theorem dX7_copy_143 : decode cX7_copy 143 = .ok (.iload 6, 2) := by decide +kernel
theorem dX7_copy_145 : decode cX7_copy 145 = .ok (.iadd, 1) := by decide +kernel
theorem dX7_copy_146 : decode cX7_copy 146 = .ok (.iaload, 1) := by decide +kernel
theorem dX7_copy_147 : decode cX7_copy 147 = .ok (.iastore, 1) := by decide +kernel
theorem dX7_copy_148 : decode cX7_copy 148 = .ok (.iinc 6 1, 3) := by decide +kernel
theorem dX7_copy_151 : decode cX7_copy 151 = .ok (.goto (-31), 3) := by decide +kernel
theorem dX7_copy_154 : decode cX7_copy 154 = .ok (.iconst 0, 1) := by decide +kernel
theorem dX7_copy_155 : decode cX7_copy 155 = .ok (.istore 6, 2) := by decide +kernel
theorem dX7_copy_157 : decode cX7_copy 157 = .ok (.iload 6, 2) := by decide +kernel
theorem dX7_copy_159 : decode cX7_copy 159 = .ok (.iload 5, 2) := by decide +kernel
theorem dX7_copy_161 : decode cX7_copy 161 = .ok (.if_icmp .ge 31, 3) := by decide +kernel
theorem dX7_copy_164 : decode cX7_copy 164 = .ok (.aload_n 0, 1) := by decide +kernel
theorem dX7_copy_165 : decode cX7_copy 165 = .ok (.getfield 16, 3) := by decide +kernel
theorem dX7_copy_168 : decode cX7_copy 168 = .ok (.bipush 60, 2) := by decide +kernel
theorem dX7_copy_170 : decode cX7_copy 170 = .ok (.iload_n 3, 1) := by decide +kernel
theorem dX7_copy_171 : decode cX7_copy 171 = .ok (.imul, 1) := by decide +kernel
theorem dX7_copy_172 : decode cX7_copy 172 = .ok (.iload 4, 2) := by decide +kernel
theorem dX7_copy_174 : decode cX7_copy 174 = .ok (.iadd, 1) := by decide +kernel
theorem dX7_copy_175 : decode cX7_copy 175 = .ok (.iload 6, 2) := by decide +kernel
theorem dX7_copy_177 : decode cX7_copy 177 = .ok (.iadd, 1) := by decide +kernel
theorem dX7_copy_178 : decode cX7_copy 178 = .ok (.aload_n 0, 1) := by decide +kernel
theorem dX7_copy_179 : decode cX7_copy 179 = .ok (.getfield 19, 3) := by decide +kernel
theorem dX7_copy_182 : decode cX7_copy 182 = .ok (.iload 6, 2) := by decide +kernel
theorem dX7_copy_184 : decode cX7_copy 184 = .ok (.iaload, 1) := by decide +kernel
theorem dX7_copy_185 : decode cX7_copy 185 = .ok (.iastore, 1) := by decide +kernel
theorem dX7_copy_186 : decode cX7_copy 186 = .ok (.iinc 6 1, 3) := by decide +kernel
theorem dX7_copy_189 : decode cX7_copy 189 = .ok (.goto (-32), 3) := by decide +kernel
theorem dX7_copy_192 : decode cX7_copy 192 = .ok (.iconst 1, 1) := by decide +kernel
theorem dX7_copy_193 : decode cX7_copy 193 = .ok (.ireturn, 1) := by decide +kernel
theorem dX7_isText_0 : decode cX7_isText 0 = .ok (.iload_n 0, 1) := by decide +kernel
theorem dX7_isText_1 : decode cX7_isText 1 = .ok (.i2l, 1) := by decide +kernel
theorem dX7_isText_2 : decode cX7_isText 2 = .ok (.lconst 0, 1) := by decide +kernel
theorem dX7_isText_3 : decode cX7_isText 3 = .ok (.ldc2_w 74, 3) := by decide +kernel
theorem dX7_isText_6 : decode cX7_isText 6 = .ok (.invokestatic 61, 3) := by decide +kernel
theorem dX7_isText_9 : decode cX7_isText 9 = .ok (.ireturn, 1) := by decide +kernel
theorem dX7_type_0 : decode cX7_type 0 = .ok (.iload_n 1, 1) := by decide +kernel
theorem dX7_type_1 : decode cX7_type 1 = .ok (.invokestatic 89, 3) := by decide +kernel
theorem dX7_type_4 : decode cX7_type 4 = .ok (.ifCond .eq 15, 3) := by decide +kernel
theorem dX7_type_7 : decode cX7_type 7 = .ok (.iload_n 2, 1) := by decide +kernel
theorem dX7_type_8 : decode cX7_type 8 = .ok (.i2l, 1) := by decide +kernel
theorem dX7_type_9 : decode cX7_type 9 = .ok (.lconst 0, 1) := by decide +kernel
theorem dX7_type_10 : decode cX7_type 10 = .ok (.ldc2_w 92, 3) := by decide +kernel
theorem dX7_type_13 : decode cX7_type 13 = .ok (.invokestatic 61, 3) := by decide +kernel
theorem dX7_type_16 : decode cX7_type 16 = .ok (.ifCond .ne 6, 3) := by decide +kernel
theorem dX7_type_19 : decode cX7_type 19 = .ok (.bipush (-2), 2) := by decide +kernel
theorem dX7_type_21 : decode cX7_type 21 = .ok (.ireturn, 1) := by decide +kernel
theorem dX7_type_22 : decode cX7_type 22 = .ok (.aload_n 0, 1) := by decide +kernel
theorem dX7_type_23 : decode cX7_type 23 = .ok (.getfield 25, 3) := by decide +kernel
theorem dX7_type_26 : decode cX7_type 26 = .ok (.iload_n 1, 1) := by decide +kernel
theorem dX7_type_27 : decode cX7_type 27 = .ok (.iaload, 1) := by decide +kernel
theorem dX7_type_28 : decode cX7_type 28 = .ok (.iload_n 1, 1) := by decide +kernel
theorem dX7_type_29 : decode cX7_type 29 = .ok (.ifCond .ne 8, 3) := by decide +kernel
theorem dX7_type_32 : decode cX7_type 32 = .ok (.bipush 23, 2) := by decide +kernel
theorem dX7_type_34 : decode cX7_type 34 = .ok (.goto 15, 3) := by decide +kernel
theorem dX7_type_37 : decode cX7_type 37 = .ok (.iload_n 1, 1) := by decide +kernel
theorem dX7_type_38 : decode cX7_type 38 = .ok (.iconst 1, 1) := by decide +kernel
theorem dX7_type_39 : decode cX7_type 39 = .ok (.if_icmp .ne 8, 3) := by decide +kernel
theorem dX7_type_42 : decode cX7_type 42 = .ok (.bipush 39, 2) := by decide +kernel
theorem dX7_type_44 : decode cX7_type 44 = .ok (.goto 5, 3) := by decide +kernel
theorem dX7_type_47 : decode cX7_type 47 = .ok (.bipush 59, 2) := by decide +kernel
theorem dX7_type_49 : decode cX7_type 49 = .ok (.if_icmp .ne 6, 3) := by decide +kernel
theorem dX7_type_52 : decode cX7_type 52 = .ok (.bipush (-4), 2) := by decide +kernel
theorem dX7_type_54 : decode cX7_type 54 = .ok (.ireturn, 1) := by decide +kernel
theorem dX7_type_55 : decode cX7_type 55 = .ok (.aload_n 0, 1) := by decide +kernel
theorem dX7_type_56 : decode cX7_type 56 = .ok (.getfield 22, 3) := by decide +kernel
theorem dX7_type_59 : decode cX7_type 59 = .ok (.bipush 60, 2) := by decide +kernel
theorem dX7_type_61 : decode cX7_type 61 = .ok (.iload_n 1, 1) := by decide +kernel
theorem dX7_type_62 : decode cX7_type 62 = .ok (.imul, 1) := by decide +kernel
theorem dX7_type_63 : decode cX7_type 63 = .ok (.aload_n 0, 1) := by decide +kernel
theorem dX7_type_64 : decode cX7_type 64 = .ok (.getfield 25, 3) := by decide +kernel
theorem dX7_type_67 : decode cX7_type 67 = .ok (.iload_n 1, 1) := by decide +kernel
theorem dX7_type_68 : decode cX7_type 68 = .ok (.iaload, 1) := by decide +kernel
theorem dX7_type_69 : decode cX7_type 69 = .ok (.iadd, 1) := by decide +kernel
theorem dX7_type_70 : decode cX7_type 70 = .ok (.iload_n 2, 1) := by decide +kernel
theorem dX7_type_71 : decode cX7_type 71 = .ok (.iastore, 1) := by decide +kernel
theorem dX7_type_72 : decode cX7_type 72 = .ok (.aload_n 0, 1) := by decide +kernel
theorem dX7_type_73 : decode cX7_type 73 = .ok (.getfield 25, 3) := by decide +kernel
theorem dX7_type_76 : decode cX7_type 76 = .ok (.iload_n 1, 1) := by decide +kernel
theorem dX7_type_77 : decode cX7_type 77 = .ok (.dup2, 1) := by decide +kernel
theorem dX7_type_78 : decode cX7_type 78 = .ok (.iaload, 1) := by decide +kernel
theorem dX7_type_79 : decode cX7_type 79 = .ok (.iconst 1, 1) := by decide +kernel
theorem dX7_type_80 : decode cX7_type 80 = .ok (.iadd, 1) := by decide +kernel
theorem dX7_type_81 : decode cX7_type 81 = .ok (.iastore, 1) := by decide +kernel
theorem dX7_type_82 : decode cX7_type 82 = .ok (.aload_n 0, 1) := by decide +kernel
theorem dX7_type_83 : decode cX7_type 83 = .ok (.getfield 25, 3) := by decide +kernel
theorem dX7_type_86 : decode cX7_type 86 = .ok (.iload_n 1, 1) := by decide +kernel
theorem dX7_type_87 : decode cX7_type 87 = .ok (.iaload, 1) := by decide +kernel
theorem dX7_type_88 : decode cX7_type 88 = .ok (.ireturn, 1) := by decide +kernel
theorem dX7_wipe_0 : decode cX7_wipe 0 = .ok (.iload_n 1, 1) := by decide +kernel
theorem dX7_wipe_1 : decode cX7_wipe 1 = .ok (.invokestatic 89, 3) := by decide +kernel
theorem dX7_wipe_4 : decode cX7_wipe 4 = .ok (.ifCond .ne 6, 3) := by decide +kernel
theorem dX7_wipe_7 : decode cX7_wipe 7 = .ok (.bipush (-2), 2) := by decide +kernel
theorem dX7_wipe_9 : decode cX7_wipe 9 = .ok (.ireturn, 1) := by decide +kernel
theorem dX7_wipe_10 : decode cX7_wipe 10 = .ok (.aload_n 0, 1) := by decide +kernel
theorem dX7_wipe_11 : decode cX7_wipe 11 = .ok (.getfield 25, 3) := by decide +kernel
theorem dX7_wipe_14 : decode cX7_wipe 14 = .ok (.iload_n 1, 1) := by decide +kernel
theorem dX7_wipe_15 : decode cX7_wipe 15 = .ok (.iaload, 1) := by decide +kernel
theorem dX7_wipe_16 : decode cX7_wipe 16 = .ok (.istore_n 2, 1) := by decide +kernel
theorem dX7_wipe_17 : decode cX7_wipe 17 = .ok (.aload_n 0, 1) := by decide +kernel
theorem dX7_wipe_18 : decode cX7_wipe 18 = .ok (.getfield 25, 3) := by decide +kernel
theorem dX7_wipe_21 : decode cX7_wipe 21 = .ok (.iload_n 1, 1) := by decide +kernel
theorem dX7_wipe_22 : decode cX7_wipe 22 = .ok (.iconst 0, 1) := by decide +kernel
theorem dX7_wipe_23 : decode cX7_wipe 23 = .ok (.iastore, 1) := by decide +kernel
theorem dX7_wipe_24 : decode cX7_wipe 24 = .ok (.iload_n 2, 1) := by decide +kernel
theorem dX7_wipe_25 : decode cX7_wipe 25 = .ok (.ireturn, 1) := by decide +kernel
theorem dX7_undo_0 : decode cX7_undo 0 = .ok (.iload_n 1, 1) := by decide +kernel
theorem dX7_undo_1 : decode cX7_undo 1 = .ok (.invokestatic 89, 3) := by decide +kernel
theorem dX7_undo_4 : decode cX7_undo 4 = .ok (.ifCond .ne 6, 3) := by decide +kernel
theorem dX7_undo_7 : decode cX7_undo 7 = .ok (.bipush (-2), 2) := by decide +kernel
theorem dX7_undo_9 : decode cX7_undo 9 = .ok (.ireturn, 1) := by decide +kernel
theorem dX7_undo_10 : decode cX7_undo 10 = .ok (.aload_n 0, 1) := by decide +kernel
theorem dX7_undo_11 : decode cX7_undo 11 = .ok (.getfield 25, 3) := by decide +kernel
theorem dX7_undo_14 : decode cX7_undo 14 = .ok (.iload_n 1, 1) := by decide +kernel
theorem dX7_undo_15 : decode cX7_undo 15 = .ok (.iaload, 1) := by decide +kernel
theorem dX7_undo_16 : decode cX7_undo 16 = .ok (.ifCond .ne 6, 3) := by decide +kernel
theorem dX7_undo_19 : decode cX7_undo 19 = .ok (.bipush (-3), 2) := by decide +kernel
theorem dX7_undo_21 : decode cX7_undo 21 = .ok (.ireturn, 1) := by decide +kernel
theorem dX7_undo_22 : decode cX7_undo 22 = .ok (.aload_n 0, 1) := by decide +kernel
theorem dX7_undo_23 : decode cX7_undo 23 = .ok (.getfield 25, 3) := by decide +kernel
theorem dX7_undo_26 : decode cX7_undo 26 = .ok (.iload_n 1, 1) := by decide +kernel
theorem dX7_undo_27 : decode cX7_undo 27 = .ok (.dup2, 1) := by decide +kernel
theorem dX7_undo_28 : decode cX7_undo 28 = .ok (.iaload, 1) := by decide +kernel
theorem dX7_undo_29 : decode cX7_undo 29 = .ok (.iconst 1, 1) := by decide +kernel
theorem dX7_undo_30 : decode cX7_undo 30 = .ok (.isub, 1) := by decide +kernel
theorem dX7_undo_31 : decode cX7_undo 31 = .ok (.iastore, 1) := by decide +kernel
theorem dX7_undo_32 : decode cX7_undo 32 = .ok (.aload_n 0, 1) := by decide +kernel
theorem dX7_undo_33 : decode cX7_undo 33 = .ok (.getfield 25, 3) := by decide +kernel
theorem dX7_undo_36 : decode cX7_undo 36 = .ok (.iload_n 1, 1) := by decide +kernel
theorem dX7_undo_37 : decode cX7_undo 37 = .ok (.iaload, 1) := by decide +kernel
theorem dX7_undo_38 : decode cX7_undo 38 = .ok (.ireturn, 1) := by decide +kernel
theorem dX7_passes_0 : decode cX7_passes 0 = .ok (.aload_n 0, 1) := by decide +kernel
theorem dX7_passes_1 : decode cX7_passes 1 = .ok (.getfield 94, 3) := by decide +kernel
theorem dX7_passes_4 : decode cX7_passes 4 = .ok (.aload_n 0, 1) := by decide +kernel
theorem dX7_passes_5 : decode cX7_passes 5 = .ok (.getfield 25, 3) := by decide +kernel
theorem dX7_passes_8 : decode cX7_passes 8 = .ok (.iload_n 1, 1) := by decide +kernel
theorem dX7_passes_9 : decode cX7_passes 9 = .ok (.iaload, 1) := by decide +kernel
theorem dX7_passes_10 : decode cX7_passes 10 = .ok (.if_icmp .ge 20, 3) := by decide +kernel
theorem dX7_passes_13 : decode cX7_passes 13 = .ok (.aload_n 0, 1) := by decide +kernel
theorem dX7_passes_14 : decode cX7_passes 14 = .ok (.getfield 22, 3) := by decide +kernel
theorem dX7_passes_17 : decode cX7_passes 17 = .ok (.bipush 60, 2) := by decide +kernel
theorem dX7_passes_19 : decode cX7_passes 19 = .ok (.iload_n 1, 1) := by decide +kernel
theorem dX7_passes_20 : decode cX7_passes 20 = .ok (.imul, 1) := by decide +kernel
theorem dX7_passes_21 : decode cX7_passes 21 = .ok (.aload_n 0, 1) := by decide +kernel
theorem dX7_passes_22 : decode cX7_passes 22 = .ok (.getfield 94, 3) := by decide +kernel
theorem dX7_passes_25 : decode cX7_passes 25 = .ok (.iadd, 1) := by decide +kernel
theorem dX7_passes_26 : decode cX7_passes 26 = .ok (.iaload, 1) := by decide +kernel
theorem dX7_passes_27 : decode cX7_passes 27 = .ok (.goto 4, 3) := by decide +kernel
theorem dX7_passes_30 : decode cX7_passes 30 = .ok (.iconst (-1), 1) := by decide +kernel
theorem dX7_passes_31 : decode cX7_passes 31 = .ok (.istore 4, 2) := by decide +kernel
theorem dX7_passes_33 : decode cX7_passes 33 = .ok (.iload 4, 2) := by decide +kernel
theorem dX7_passes_35 : decode cX7_passes 35 = .ok (.i2l, 1) := by decide +kernel
theorem dX7_passes_36 : decode cX7_passes 36 = .ok (.iload_n 2, 1) := by decide +kernel
theorem dX7_passes_37 : decode cX7_passes 37 = .ok (.i2l, 1) := by decide +kernel
theorem dX7_passes_38 : decode cX7_passes 38 = .ok (.iload_n 3, 1) := by decide +kernel
theorem dX7_passes_39 : decode cX7_passes 39 = .ok (.i2l, 1) := by decide +kernel
theorem dX7_passes_40 : decode cX7_passes 40 = .ok (.invokestatic 61, 3) := by decide +kernel
theorem dX7_passes_43 : decode cX7_passes 43 = .ok (.ifCond .ne 6, 3) := by decide +kernel
theorem dX7_passes_46 : decode cX7_passes 46 = .ok (.bipush (-9), 2) := by decide +kernel
theorem dX7_passes_48 : decode cX7_passes 48 = .ok (.ireturn, 1) := by decide +kernel
theorem dX7_passes_49 : decode cX7_passes 49 = .ok (.aload_n 0, 1) := by decide +kernel
theorem dX7_passes_50 : decode cX7_passes 50 = .ok (.dup, 1) := by decide +kernel
theorem dX7_passes_51 : decode cX7_passes 51 = .ok (.getfield 94, 3) := by decide +kernel
theorem dX7_passes_54 : decode cX7_passes 54 = .ok (.iconst 1, 1) := by decide +kernel
theorem dX7_passes_55 : decode cX7_passes 55 = .ok (.iadd, 1) := by decide +kernel
theorem dX7_passes_56 : decode cX7_passes 56 = .ok (.putfield 94, 3) := by decide +kernel
theorem dX7_passes_59 : decode cX7_passes 59 = .ok (.iload 4, 2) := by decide +kernel
theorem dX7_passes_61 : decode cX7_passes 61 = .ok (.iload_n 2, 1) := by decide +kernel
theorem dX7_passes_62 : decode cX7_passes 62 = .ok (.isub, 1) := by decide +kernel
theorem dX7_passes_63 : decode cX7_passes 63 = .ok (.ireturn, 1) := by decide +kernel
theorem dX7_twoFigures_0 : decode cX7_twoFigures 0 = .ok (.aload_n 0, 1) := by decide +kernel
theorem dX7_twoFigures_1 : decode cX7_twoFigures 1 = .ok (.iload_n 1, 1) := by decide +kernel
theorem dX7_twoFigures_2 : decode cX7_twoFigures 2 = .ok (.bipush 48, 2) := by decide +kernel
theorem dX7_twoFigures_4 : decode cX7_twoFigures 4 = .ok (.bipush 57, 2) := by decide +kernel
theorem dX7_twoFigures_6 : decode cX7_twoFigures 6 = .ok (.invokevirtual 97, 3) := by decide +kernel
theorem dX7_twoFigures_9 : decode cX7_twoFigures 9 = .ok (.istore_n 3, 1) := by decide +kernel
theorem dX7_twoFigures_10 : decode cX7_twoFigures 10 = .ok (.iload_n 3, 1) := by decide +kernel
theorem dX7_twoFigures_11 : decode cX7_twoFigures 11 = .ok (.bipush (-9), 2) := by decide +kernel
theorem dX7_twoFigures_13 : decode cX7_twoFigures 13 = .ok (.if_icmp .ne 8, 3) := by decide +kernel
theorem dX7_twoFigures_16 : decode cX7_twoFigures 16 = .ok (.bipush (-9), 2) := by decide +kernel
theorem dX7_twoFigures_18 : decode cX7_twoFigures 18 = .ok (.goto 22, 3) := by decide +kernel
theorem dX7_twoFigures_21 : decode cX7_twoFigures 21 = .ok (.bipush 10, 2) := by decide +kernel
theorem dX7_twoFigures_23 : decode cX7_twoFigures 23 = .ok (.iload_n 3, 1) := by decide +kernel
theorem dX7_twoFigures_24 : decode cX7_twoFigures 24 = .ok (.imul, 1) := by decide +kernel
theorem dX7_twoFigures_25 : decode cX7_twoFigures 25 = .ok (.aload_n 0, 1) := by decide +kernel
theorem dX7_twoFigures_26 : decode cX7_twoFigures 26 = .ok (.iload_n 1, 1) := by decide +kernel
theorem dX7_twoFigures_27 : decode cX7_twoFigures 27 = .ok (.iload_n 3, 1) := by decide +kernel
theorem dX7_twoFigures_28 : decode cX7_twoFigures 28 = .ok (.ifCond .ne 7, 3) := by decide +kernel
theorem dX7_twoFigures_31 : decode cX7_twoFigures 31 = .ok (.iload_n 2, 1) := by decide +kernel
theorem dX7_twoFigures_32 : decode cX7_twoFigures 32 = .ok (.goto 4, 3) := by decide +kernel
theorem dX7_twoFigures_35 : decode cX7_twoFigures 35 = .ok (.iconst 0, 1) := by decide +kernel
theorem dX7_twoFigures_36 : decode cX7_twoFigures 36 = .ok (.invokevirtual 100, 3) := by decide +kernel
theorem dX7_twoFigures_39 : decode cX7_twoFigures 39 = .ok (.iadd, 1) := by decide +kernel
theorem dX7_twoFigures_40 : decode cX7_twoFigures 40 = .ok (.ireturn, 1) := by decide +kernel
theorem dX7_units_0 : decode cX7_units 0 = .ok (.aload_n 0, 1) := by decide +kernel
theorem dX7_units_1 : decode cX7_units 1 = .ok (.iload_n 1, 1) := by decide +kernel
theorem dX7_units_2 : decode cX7_units 2 = .ok (.bipush 48, 2) := by decide +kernel
theorem dX7_units_4 : decode cX7_units 4 = .ok (.iload_n 2, 1) := by decide +kernel
theorem dX7_units_5 : decode cX7_units 5 = .ok (.iadd, 1) := by decide +kernel
theorem dX7_units_6 : decode cX7_units 6 = .ok (.bipush 57, 2) := by decide +kernel
theorem dX7_units_8 : decode cX7_units 8 = .ok (.invokevirtual 97, 3) := by decide +kernel
theorem dX7_units_11 : decode cX7_units 11 = .ok (.istore_n 3, 1) := by decide +kernel
theorem dX7_units_12 : decode cX7_units 12 = .ok (.iload_n 3, 1) := by decide +kernel
theorem dX7_units_13 : decode cX7_units 13 = .ok (.bipush (-9), 2) := by decide +kernel
theorem dX7_units_15 : decode cX7_units 15 = .ok (.if_icmp .ne 9, 3) := by decide +kernel
theorem dX7_units_18 : decode cX7_units 18 = .ok (.sipush (-900), 3) := by decide +kernel
theorem dX7_units_21 : decode cX7_units 21 = .ok (.goto 6, 3) := by decide +kernel
theorem dX7_units_24 : decode cX7_units 24 = .ok (.iload_n 3, 1) := by decide +kernel
theorem dX7_units_25 : decode cX7_units 25 = .ok (.iload_n 2, 1) := by decide +kernel
theorem dX7_units_26 : decode cX7_units 26 = .ok (.iadd, 1) := by decide +kernel
theorem dX7_units_27 : decode cX7_units 27 = .ok (.ireturn, 1) := by decide +kernel
theorem dX7_readsShip_0 : decode cX7_readsShip 0 = .ok (.iconst 2, 1) := by decide +kernel
theorem dX7_readsShip_1 : decode cX7_readsShip 1 = .ok (.aload_n 0, 1) := by decide +kernel
theorem dX7_readsShip_2 : decode cX7_readsShip 2 = .ok (.getfield 28, 3) := by decide +kernel
theorem dX7_readsShip_5 : decode cX7_readsShip 5 = .ok (.iconst 0, 1) := by decide +kernel
theorem dX7_readsShip_6 : decode cX7_readsShip 6 = .ok (.iaload, 1) := by decide +kernel
theorem dX7_readsShip_7 : decode cX7_readsShip 7 = .ok (.imul, 1) := by decide +kernel
theorem dX7_readsShip_8 : decode cX7_readsShip 8 = .ok (.istore_n 1, 1) := by decide +kernel
theorem dX7_readsShip_9 : decode cX7_readsShip 9 = .ok (.aload_n 0, 1) := by decide +kernel
theorem dX7_readsShip_10 : decode cX7_readsShip 10 = .ok (.iconst 0, 1) := by decide +kernel
theorem dX7_readsShip_11 : decode cX7_readsShip 11 = .ok (.iconst 1, 1) := by decide +kernel
theorem dX7_readsShip_12 : decode cX7_readsShip 12 = .ok (.invokevirtual 103, 3) := by decide +kernel
theorem dX7_readsShip_15 : decode cX7_readsShip 15 = .ok (.istore_n 2, 1) := by decide +kernel
theorem dX7_readsShip_16 : decode cX7_readsShip 16 = .ok (.iload_n 2, 1) := by decide +kernel
theorem dX7_readsShip_17 : decode cX7_readsShip 17 = .ok (.ifCond .ge 5, 3) := by decide +kernel
theorem dX7_readsShip_20 : decode cX7_readsShip 20 = .ok (.iconst 0, 1) := by decide +kernel
theorem dX7_readsShip_21 : decode cX7_readsShip 21 = .ok (.ireturn, 1) := by decide +kernel
theorem dX7_readsShip_22 : decode cX7_readsShip 22 = .ok (.aload_n 0, 1) := by decide +kernel
theorem dX7_readsShip_23 : decode cX7_readsShip 23 = .ok (.iconst 0, 1) := by decide +kernel
theorem dX7_readsShip_24 : decode cX7_readsShip 24 = .ok (.bipush 48, 2) := by decide +kernel
theorem dX7_readsShip_26 : decode cX7_readsShip 26 = .ok (.bipush 57, 2) := by decide +kernel
theorem dX7_readsShip_28 : decode cX7_readsShip 28 = .ok (.invokevirtual 97, 3) := by decide +kernel
theorem dX7_readsShip_31 : decode cX7_readsShip 31 = .ok (.istore_n 3, 1) := by decide +kernel
theorem dX7_readsShip_32 : decode cX7_readsShip 32 = .ok (.iload_n 3, 1) := by decide +kernel
theorem dX7_readsShip_33 : decode cX7_readsShip 33 = .ok (.bipush (-9), 2) := by decide +kernel
theorem dX7_readsShip_35 : decode cX7_readsShip 35 = .ok (.if_icmp .ne 5, 3) := by decide +kernel
theorem dX7_readsShip_38 : decode cX7_readsShip 38 = .ok (.iconst 0, 1) := by decide +kernel
theorem dX7_readsShip_39 : decode cX7_readsShip 39 = .ok (.ireturn, 1) := by decide +kernel
theorem dX7_readsShip_40 : decode cX7_readsShip 40 = .ok (.aload_n 0, 1) := by decide +kernel
theorem dX7_readsShip_41 : decode cX7_readsShip 41 = .ok (.getfield 31, 3) := by decide +kernel
theorem dX7_readsShip_44 : decode cX7_readsShip 44 = .ok (.iload_n 1, 1) := by decide +kernel
theorem dX7_readsShip_45 : decode cX7_readsShip 45 = .ok (.iload_n 2, 1) := by decide +kernel
theorem dX7_readsShip_46 : decode cX7_readsShip 46 = .ok (.iastore, 1) := by decide +kernel
theorem dX7_readsShip_47 : decode cX7_readsShip 47 = .ok (.aload_n 0, 1) := by decide +kernel
theorem dX7_readsShip_48 : decode cX7_readsShip 48 = .ok (.getfield 31, 3) := by decide +kernel
theorem dX7_readsShip_51 : decode cX7_readsShip 51 = .ok (.iload_n 1, 1) := by decide +kernel
theorem dX7_readsShip_52 : decode cX7_readsShip 52 = .ok (.iconst 1, 1) := by decide +kernel
theorem dX7_readsShip_53 : decode cX7_readsShip 53 = .ok (.iadd, 1) := by decide +kernel
theorem dX7_readsShip_54 : decode cX7_readsShip 54 = .ok (.iload_n 3, 1) := by decide +kernel
theorem dX7_readsShip_55 : decode cX7_readsShip 55 = .ok (.iastore, 1) := by decide +kernel
theorem dX7_readsShip_56 : decode cX7_readsShip 56 = .ok (.iconst 1, 1) := by decide +kernel
theorem dX7_readsShip_57 : decode cX7_readsShip 57 = .ok (.ireturn, 1) := by decide +kernel
theorem dX7_readsName_0 : decode cX7_readsName 0 = .ok (.iconst 3, 1) := by decide +kernel
theorem dX7_readsName_1 : decode cX7_readsName 1 = .ok (.aload_n 0, 1) := by decide +kernel
theorem dX7_readsName_2 : decode cX7_readsName 2 = .ok (.getfield 28, 3) := by decide +kernel
theorem dX7_readsName_5 : decode cX7_readsName 5 = .ok (.iconst 1, 1) := by decide +kernel
theorem dX7_readsName_6 : decode cX7_readsName 6 = .ok (.iaload, 1) := by decide +kernel
theorem dX7_readsName_7 : decode cX7_readsName 7 = .ok (.imul, 1) := by decide +kernel
theorem dX7_readsName_8 : decode cX7_readsName 8 = .ok (.istore_n 1, 1) := by decide +kernel
theorem dX7_readsName_9 : decode cX7_readsName 9 = .ok (.aload_n 0, 1) := by decide +kernel
theorem dX7_readsName_10 : decode cX7_readsName 10 = .ok (.iconst 1, 1) := by decide +kernel
theorem dX7_readsName_11 : decode cX7_readsName 11 = .ok (.iconst 0, 1) := by decide +kernel
theorem dX7_readsName_12 : decode cX7_readsName 12 = .ok (.invokevirtual 103, 3) := by decide +kernel
theorem dX7_readsName_15 : decode cX7_readsName 15 = .ok (.istore_n 2, 1) := by decide +kernel
theorem dX7_readsName_16 : decode cX7_readsName 16 = .ok (.iload_n 2, 1) := by decide +kernel
theorem dX7_readsName_17 : decode cX7_readsName 17 = .ok (.ifCond .ge 5, 3) := by decide +kernel
theorem dX7_readsName_20 : decode cX7_readsName 20 = .ok (.iconst 0, 1) := by decide +kernel
theorem dX7_readsName_21 : decode cX7_readsName 21 = .ok (.ireturn, 1) := by decide +kernel
theorem dX7_readsName_22 : decode cX7_readsName 22 = .ok (.aload_n 0, 1) := by decide +kernel
theorem dX7_readsName_23 : decode cX7_readsName 23 = .ok (.iconst 1, 1) := by decide +kernel
theorem dX7_readsName_24 : decode cX7_readsName 24 = .ok (.bipush 108, 2) := by decide +kernel
theorem dX7_readsName_26 : decode cX7_readsName 26 = .ok (.bipush 108, 2) := by decide +kernel
theorem dX7_readsName_28 : decode cX7_readsName 28 = .ok (.invokevirtual 97, 3) := by decide +kernel
theorem dX7_readsName_31 : decode cX7_readsName 31 = .ok (.istore_n 3, 1) := by decide +kernel
theorem dX7_readsName_32 : decode cX7_readsName 32 = .ok (.iload_n 3, 1) := by decide +kernel
theorem dX7_readsName_33 : decode cX7_readsName 33 = .ok (.bipush (-9), 2) := by decide +kernel
theorem dX7_readsName_35 : decode cX7_readsName 35 = .ok (.if_icmp .ne 15, 3) := by decide +kernel
theorem dX7_readsName_38 : decode cX7_readsName 38 = .ok (.aload_n 0, 1) := by decide +kernel
theorem dX7_readsName_39 : decode cX7_readsName 39 = .ok (.iconst 1, 1) := by decide +kernel
theorem dX7_readsName_40 : decode cX7_readsName 40 = .ok (.bipush 100, 2) := by decide +kernel
theorem dX7_readsName_42 : decode cX7_readsName 42 = .ok (.bipush 100, 2) := by decide +kernel
theorem dX7_readsName_44 : decode cX7_readsName 44 = .ok (.invokevirtual 97, 3) := by decide +kernel
theorem dX7_readsName_47 : decode cX7_readsName 47 = .ok (.goto 5, 3) := by decide +kernel
theorem dX7_readsName_50 : decode cX7_readsName 50 = .ok (.bipush (-9), 2) := by decide +kernel
theorem dX7_readsName_52 : decode cX7_readsName 52 = .ok (.istore 4, 2) := by decide +kernel
theorem dX7_readsName_54 : decode cX7_readsName 54 = .ok (.iload_n 3, 1) := by decide +kernel
theorem dX7_readsName_55 : decode cX7_readsName 55 = .ok (.bipush (-9), 2) := by decide +kernel
theorem dX7_readsName_57 : decode cX7_readsName 57 = .ok (.if_icmp .ne 12, 3) := by decide +kernel
theorem dX7_readsName_60 : decode cX7_readsName 60 = .ok (.iload 4, 2) := by decide +kernel
theorem dX7_readsName_62 : decode cX7_readsName 62 = .ok (.bipush (-9), 2) := by decide +kernel
theorem dX7_readsName_64 : decode cX7_readsName 64 = .ok (.if_icmp .ne 5, 3) := by decide +kernel
theorem dX7_readsName_67 : decode cX7_readsName 67 = .ok (.iconst 0, 1) := by decide +kernel
theorem dX7_readsName_68 : decode cX7_readsName 68 = .ok (.ireturn, 1) := by decide +kernel
theorem dX7_readsName_69 : decode cX7_readsName 69 = .ok (.aload_n 0, 1) := by decide +kernel
theorem dX7_readsName_70 : decode cX7_readsName 70 = .ok (.iconst 1, 1) := by decide +kernel
theorem dX7_readsName_71 : decode cX7_readsName 71 = .ok (.bipush 46, 2) := by decide +kernel
theorem dX7_readsName_73 : decode cX7_readsName 73 = .ok (.bipush 46, 2) := by decide +kernel
theorem dX7_readsName_75 : decode cX7_readsName 75 = .ok (.invokevirtual 97, 3) := by decide +kernel
theorem dX7_readsName_78 : decode cX7_readsName 78 = .ok (.istore 5, 2) := by decide +kernel
theorem dX7_readsName_80 : decode cX7_readsName 80 = .ok (.iload 5, 2) := by decide +kernel
theorem dX7_readsName_82 : decode cX7_readsName 82 = .ok (.bipush (-9), 2) := by decide +kernel
theorem dX7_readsName_84 : decode cX7_readsName 84 = .ok (.if_icmp .ne 15, 3) := by decide +kernel
theorem dX7_readsName_87 : decode cX7_readsName 87 = .ok (.aload_n 0, 1) := by decide +kernel
theorem dX7_readsName_88 : decode cX7_readsName 88 = .ok (.iconst 1, 1) := by decide +kernel
theorem dX7_readsName_89 : decode cX7_readsName 89 = .ok (.bipush 97, 2) := by decide +kernel
theorem dX7_readsName_91 : decode cX7_readsName 91 = .ok (.bipush 104, 2) := by decide +kernel
theorem dX7_readsName_93 : decode cX7_readsName 93 = .ok (.invokevirtual 97, 3) := by decide +kernel
theorem dX7_readsName_96 : decode cX7_readsName 96 = .ok (.goto 4, 3) := by decide +kernel
theorem dX7_readsName_99 : decode cX7_readsName 99 = .ok (.iconst (-1), 1) := by decide +kernel
theorem dX7_readsName_100 : decode cX7_readsName 100 = .ok (.istore 6, 2) := by decide +kernel
theorem dX7_readsName_102 : decode cX7_readsName 102 = .ok (.iload 6, 2) := by decide +kernel
theorem dX7_readsName_104 : decode cX7_readsName 104 = .ok (.bipush (-9), 2) := by decide +kernel
theorem dX7_readsName_106 : decode cX7_readsName 106 = .ok (.if_icmp .ne 5, 3) := by decide +kernel
theorem dX7_readsName_109 : decode cX7_readsName 109 = .ok (.iconst 0, 1) := by decide +kernel
theorem dX7_readsName_110 : decode cX7_readsName 110 = .ok (.ireturn, 1) := by decide +kernel
theorem dX7_readsName_111 : decode cX7_readsName 111 = .ok (.aload_n 0, 1) := by decide +kernel
theorem dX7_readsName_112 : decode cX7_readsName 112 = .ok (.getfield 34, 3) := by decide +kernel
theorem dX7_readsName_115 : decode cX7_readsName 115 = .ok (.iload_n 1, 1) := by decide +kernel
theorem dX7_readsName_116 : decode cX7_readsName 116 = .ok (.iload_n 2, 1) := by decide +kernel
theorem dX7_readsName_117 : decode cX7_readsName 117 = .ok (.iastore, 1) := by decide +kernel
theorem dX7_readsName_118 : decode cX7_readsName 118 = .ok (.aload_n 0, 1) := by decide +kernel
theorem dX7_readsName_119 : decode cX7_readsName 119 = .ok (.getfield 34, 3) := by decide +kernel
theorem dX7_readsName_122 : decode cX7_readsName 122 = .ok (.iload_n 1, 1) := by decide +kernel
theorem dX7_readsName_123 : decode cX7_readsName 123 = .ok (.iconst 1, 1) := by decide +kernel
theorem dX7_readsName_124 : decode cX7_readsName 124 = .ok (.iadd, 1) := by decide +kernel
theorem dX7_readsName_125 : decode cX7_readsName 125 = .ok (.iload_n 3, 1) := by decide +kernel
theorem dX7_readsName_126 : decode cX7_readsName 126 = .ok (.bipush (-9), 2) := by decide +kernel
theorem dX7_readsName_128 : decode cX7_readsName 128 = .ok (.if_icmp .ne 7, 3) := by decide +kernel
theorem dX7_readsName_131 : decode cX7_readsName 131 = .ok (.iconst 1, 1) := by decide +kernel
theorem dX7_readsName_132 : decode cX7_readsName 132 = .ok (.goto 4, 3) := by decide +kernel
theorem dX7_readsName_135 : decode cX7_readsName 135 = .ok (.iconst 0, 1) := by decide +kernel
theorem dX7_readsName_136 : decode cX7_readsName 136 = .ok (.iastore, 1) := by decide +kernel
theorem dX7_readsName_137 : decode cX7_readsName 137 = .ok (.aload_n 0, 1) := by decide +kernel
theorem dX7_readsName_138 : decode cX7_readsName 138 = .ok (.getfield 34, 3) := by decide +kernel
theorem dX7_readsName_141 : decode cX7_readsName 141 = .ok (.iload_n 1, 1) := by decide +kernel
theorem dX7_readsName_142 : decode cX7_readsName 142 = .ok (.iconst 2, 1) := by decide +kernel
theorem dX7_readsName_143 : decode cX7_readsName 143 = .ok (.iadd, 1) := by decide +kernel
theorem dX7_readsName_144 : decode cX7_readsName 144 = .ok (.iload 6, 2) := by decide +kernel
theorem dX7_readsName_146 : decode cX7_readsName 146 = .ok (.iastore, 1) := by decide +kernel
theorem dX7_readsName_147 : decode cX7_readsName 147 = .ok (.iconst 1, 1) := by decide +kernel
theorem dX7_readsName_148 : decode cX7_readsName 148 = .ok (.ireturn, 1) := by decide +kernel
theorem dX7_readsLine_0 : decode cX7_readsLine 0 = .ok (.iconst 3, 1) := by decide +kernel
theorem dX7_readsLine_1 : decode cX7_readsLine 1 = .ok (.aload_n 0, 1) := by decide +kernel
theorem dX7_readsLine_2 : decode cX7_readsLine 2 = .ok (.getfield 28, 3) := by decide +kernel
theorem dX7_readsLine_5 : decode cX7_readsLine 5 = .ok (.iconst 2, 1) := by decide +kernel
theorem dX7_readsLine_6 : decode cX7_readsLine 6 = .ok (.iaload, 1) := by decide +kernel
theorem dX7_readsLine_7 : decode cX7_readsLine 7 = .ok (.imul, 1) := by decide +kernel
theorem dX7_readsLine_8 : decode cX7_readsLine 8 = .ok (.istore_n 1, 1) := by decide +kernel
theorem dX7_readsLine_9 : decode cX7_readsLine 9 = .ok (.aload_n 0, 1) := by decide +kernel
theorem dX7_readsLine_10 : decode cX7_readsLine 10 = .ok (.iconst 2, 1) := by decide +kernel
theorem dX7_readsLine_11 : decode cX7_readsLine 11 = .ok (.bipush 48, 2) := by decide +kernel
theorem dX7_readsLine_13 : decode cX7_readsLine 13 = .ok (.bipush 53, 2) := by decide +kernel
theorem dX7_readsLine_15 : decode cX7_readsLine 15 = .ok (.invokevirtual 97, 3) := by decide +kernel
theorem dX7_readsLine_18 : decode cX7_readsLine 18 = .ok (.istore_n 2, 1) := by decide +kernel
theorem dX7_readsLine_19 : decode cX7_readsLine 19 = .ok (.iload_n 2, 1) := by decide +kernel
theorem dX7_readsLine_20 : decode cX7_readsLine 20 = .ok (.bipush (-9), 2) := by decide +kernel
theorem dX7_readsLine_22 : decode cX7_readsLine 22 = .ok (.if_icmp .ne 5, 3) := by decide +kernel
theorem dX7_readsLine_25 : decode cX7_readsLine 25 = .ok (.iconst 0, 1) := by decide +kernel
theorem dX7_readsLine_26 : decode cX7_readsLine 26 = .ok (.ireturn, 1) := by decide +kernel
theorem dX7_readsLine_27 : decode cX7_readsLine 27 = .ok (.aload_n 0, 1) := by decide +kernel
theorem dX7_readsLine_28 : decode cX7_readsLine 28 = .ok (.iconst 2, 1) := by decide +kernel
theorem dX7_readsLine_29 : decode cX7_readsLine 29 = .ok (.bipush 97, 2) := by decide +kernel
theorem dX7_readsLine_31 : decode cX7_readsLine 31 = .ok (.bipush 104, 2) := by decide +kernel
theorem dX7_readsLine_33 : decode cX7_readsLine 33 = .ok (.invokevirtual 97, 3) := by decide +kernel
theorem dX7_readsLine_36 : decode cX7_readsLine 36 = .ok (.istore_n 3, 1) := by decide +kernel
theorem dX7_readsLine_37 : decode cX7_readsLine 37 = .ok (.iload_n 3, 1) := by decide +kernel
theorem dX7_readsLine_38 : decode cX7_readsLine 38 = .ok (.bipush (-9), 2) := by decide +kernel
theorem dX7_readsLine_40 : decode cX7_readsLine 40 = .ok (.if_icmp .ne 5, 3) := by decide +kernel
theorem dX7_readsLine_43 : decode cX7_readsLine 43 = .ok (.iconst 0, 1) := by decide +kernel
theorem dX7_readsLine_44 : decode cX7_readsLine 44 = .ok (.ireturn, 1) := by decide +kernel
theorem dX7_readsLine_45 : decode cX7_readsLine 45 = .ok (.aload_n 0, 1) := by decide +kernel
theorem dX7_readsLine_46 : decode cX7_readsLine 46 = .ok (.iconst 2, 1) := by decide +kernel
theorem dX7_readsLine_47 : decode cX7_readsLine 47 = .ok (.iconst 1, 1) := by decide +kernel
theorem dX7_readsLine_48 : decode cX7_readsLine 48 = .ok (.invokevirtual 103, 3) := by decide +kernel
theorem dX7_readsLine_51 : decode cX7_readsLine 51 = .ok (.istore 4, 2) := by decide +kernel
theorem dX7_readsLine_53 : decode cX7_readsLine 53 = .ok (.iload 4, 2) := by decide +kernel
theorem dX7_readsLine_55 : decode cX7_readsLine 55 = .ok (.ifCond .ge 5, 3) := by decide +kernel
theorem dX7_readsLine_58 : decode cX7_readsLine 58 = .ok (.iconst 0, 1) := by decide +kernel
theorem dX7_readsLine_59 : decode cX7_readsLine 59 = .ok (.ireturn, 1) := by decide +kernel
theorem dX7_readsLine_60 : decode cX7_readsLine 60 = .ok (.aload_n 0, 1) := by decide +kernel
theorem dX7_readsLine_61 : decode cX7_readsLine 61 = .ok (.getfield 37, 3) := by decide +kernel
theorem dX7_readsLine_64 : decode cX7_readsLine 64 = .ok (.iload_n 1, 1) := by decide +kernel
theorem dX7_readsLine_65 : decode cX7_readsLine 65 = .ok (.iload_n 2, 1) := by decide +kernel
theorem dX7_readsLine_66 : decode cX7_readsLine 66 = .ok (.iastore, 1) := by decide +kernel
theorem dX7_readsLine_67 : decode cX7_readsLine 67 = .ok (.aload_n 0, 1) := by decide +kernel
theorem dX7_readsLine_68 : decode cX7_readsLine 68 = .ok (.getfield 37, 3) := by decide +kernel
theorem dX7_readsLine_71 : decode cX7_readsLine 71 = .ok (.iload_n 1, 1) := by decide +kernel
theorem dX7_readsLine_72 : decode cX7_readsLine 72 = .ok (.iconst 1, 1) := by decide +kernel
theorem dX7_readsLine_73 : decode cX7_readsLine 73 = .ok (.iadd, 1) := by decide +kernel
theorem dX7_readsLine_74 : decode cX7_readsLine 74 = .ok (.iload_n 3, 1) := by decide +kernel
theorem dX7_readsLine_75 : decode cX7_readsLine 75 = .ok (.iastore, 1) := by decide +kernel
theorem dX7_readsLine_76 : decode cX7_readsLine 76 = .ok (.aload_n 0, 1) := by decide +kernel
theorem dX7_readsLine_77 : decode cX7_readsLine 77 = .ok (.getfield 37, 3) := by decide +kernel
theorem dX7_readsLine_80 : decode cX7_readsLine 80 = .ok (.iload_n 1, 1) := by decide +kernel
theorem dX7_readsLine_81 : decode cX7_readsLine 81 = .ok (.iconst 2, 1) := by decide +kernel
theorem dX7_readsLine_82 : decode cX7_readsLine 82 = .ok (.iadd, 1) := by decide +kernel
theorem dX7_readsLine_83 : decode cX7_readsLine 83 = .ok (.iload 4, 2) := by decide +kernel
theorem dX7_readsLine_85 : decode cX7_readsLine 85 = .ok (.iastore, 1) := by decide +kernel
theorem dX7_readsLine_86 : decode cX7_readsLine 86 = .ok (.iconst 1, 1) := by decide +kernel
theorem dX7_readsLine_87 : decode cX7_readsLine 87 = .ok (.ireturn, 1) := by decide +kernel
theorem dX7_readsThing_0 : decode cX7_readsThing 0 = .ok (.aload_n 0, 1) := by decide +kernel
theorem dX7_readsThing_1 : decode cX7_readsThing 1 = .ok (.getfield 28, 3) := by decide +kernel
theorem dX7_readsThing_4 : decode cX7_readsThing 4 = .ok (.iload_n 1, 1) := by decide +kernel
theorem dX7_readsThing_5 : decode cX7_readsThing 5 = .ok (.iaload, 1) := by decide +kernel
theorem dX7_readsThing_6 : decode cX7_readsThing 6 = .ok (.iload_n 1, 1) := by decide +kernel
theorem dX7_readsThing_7 : decode cX7_readsThing 7 = .ok (.ifCond .ne 8, 3) := by decide +kernel
theorem dX7_readsThing_10 : decode cX7_readsThing 10 = .ok (.bipush 6, 2) := by decide +kernel
theorem dX7_readsThing_12 : decode cX7_readsThing 12 = .ok (.goto 15, 3) := by decide +kernel
theorem dX7_readsThing_15 : decode cX7_readsThing 15 = .ok (.iload_n 1, 1) := by decide +kernel
theorem dX7_readsThing_16 : decode cX7_readsThing 16 = .ok (.iconst 1, 1) := by decide +kernel
theorem dX7_readsThing_17 : decode cX7_readsThing 17 = .ok (.if_icmp .ne 8, 3) := by decide +kernel
theorem dX7_readsThing_20 : decode cX7_readsThing 20 = .ok (.bipush 8, 2) := by decide +kernel
theorem dX7_readsThing_22 : decode cX7_readsThing 22 = .ok (.goto 5, 3) := by decide +kernel
theorem dX7_readsThing_25 : decode cX7_readsThing 25 = .ok (.bipush 12, 2) := by decide +kernel
theorem dX7_readsThing_27 : decode cX7_readsThing 27 = .ok (.if_icmp .ne 5, 3) := by decide +kernel
theorem dX7_readsThing_30 : decode cX7_readsThing 30 = .ok (.iconst 0, 1) := by decide +kernel
theorem dX7_readsThing_31 : decode cX7_readsThing 31 = .ok (.ireturn, 1) := by decide +kernel
theorem dX7_readsThing_32 : decode cX7_readsThing 32 = .ok (.iload_n 1, 1) := by decide +kernel
theorem dX7_readsThing_33 : decode cX7_readsThing 33 = .ok (.ifCond .ne 10, 3) := by decide +kernel
theorem dX7_readsThing_36 : decode cX7_readsThing 36 = .ok (.aload_n 0, 1) := by decide +kernel
theorem dX7_readsThing_37 : decode cX7_readsThing 37 = .ok (.invokevirtual 106, 3) := by decide +kernel
theorem dX7_readsThing_40 : decode cX7_readsThing 40 = .ok (.goto 19, 3) := by decide +kernel
theorem dX7_readsThing_43 : decode cX7_readsThing 43 = .ok (.iload_n 1, 1) := by decide +kernel
theorem dX7_readsThing_44 : decode cX7_readsThing 44 = .ok (.iconst 1, 1) := by decide +kernel
theorem dX7_readsThing_45 : decode cX7_readsThing 45 = .ok (.if_icmp .ne 10, 3) := by decide +kernel
theorem dX7_readsThing_48 : decode cX7_readsThing 48 = .ok (.aload_n 0, 1) := by decide +kernel
theorem dX7_readsThing_49 : decode cX7_readsThing 49 = .ok (.invokevirtual 110, 3) := by decide +kernel
theorem dX7_readsThing_52 : decode cX7_readsThing 52 = .ok (.goto 7, 3) := by decide +kernel
theorem dX7_readsThing_55 : decode cX7_readsThing 55 = .ok (.aload_n 0, 1) := by decide +kernel
theorem dX7_readsThing_56 : decode cX7_readsThing 56 = .ok (.invokevirtual 113, 3) := by decide +kernel
theorem dX7_readsThing_59 : decode cX7_readsThing 59 = .ok (.istore_n 2, 1) := by decide +kernel
theorem dX7_readsThing_60 : decode cX7_readsThing 60 = .ok (.aload_n 0, 1) := by decide +kernel
theorem dX7_readsThing_61 : decode cX7_readsThing 61 = .ok (.getfield 28, 3) := by decide +kernel
theorem dX7_readsThing_64 : decode cX7_readsThing 64 = .ok (.iload_n 1, 1) := by decide +kernel
theorem dX7_readsThing_65 : decode cX7_readsThing 65 = .ok (.dup2, 1) := by decide +kernel
theorem dX7_readsThing_66 : decode cX7_readsThing 66 = .ok (.iaload, 1) := by decide +kernel
theorem dX7_readsThing_67 : decode cX7_readsThing 67 = .ok (.iload_n 2, 1) := by decide +kernel
theorem dX7_readsThing_68 : decode cX7_readsThing 68 = .ok (.ifCond .eq 7, 3) := by decide +kernel
theorem dX7_readsThing_71 : decode cX7_readsThing 71 = .ok (.iconst 1, 1) := by decide +kernel
theorem dX7_readsThing_72 : decode cX7_readsThing 72 = .ok (.goto 4, 3) := by decide +kernel
theorem dX7_readsThing_75 : decode cX7_readsThing 75 = .ok (.iconst 0, 1) := by decide +kernel
theorem dX7_readsThing_76 : decode cX7_readsThing 76 = .ok (.iadd, 1) := by decide +kernel
theorem dX7_readsThing_77 : decode cX7_readsThing 77 = .ok (.iastore, 1) := by decide +kernel
theorem dX7_readsThing_78 : decode cX7_readsThing 78 = .ok (.iload_n 2, 1) := by decide +kernel
theorem dX7_readsThing_79 : decode cX7_readsThing 79 = .ok (.ireturn, 1) := by decide +kernel
theorem dX7_readsText_0 : decode cX7_readsText 0 = .ok (.aload_n 0, 1) := by decide +kernel
theorem dX7_readsText_1 : decode cX7_readsText 1 = .ok (.iconst 0, 1) := by decide +kernel
theorem dX7_readsText_2 : decode cX7_readsText 2 = .ok (.putfield 94, 3) := by decide +kernel
theorem dX7_readsText_5 : decode cX7_readsText 5 = .ok (.aload_n 0, 1) := by decide +kernel
theorem dX7_readsText_6 : decode cX7_readsText 6 = .ok (.getfield 28, 3) := by decide +kernel
theorem dX7_readsText_9 : decode cX7_readsText 9 = .ok (.iload_n 1, 1) := by decide +kernel
theorem dX7_readsText_10 : decode cX7_readsText 10 = .ok (.iconst 0, 1) := by decide +kernel
theorem dX7_readsText_11 : decode cX7_readsText 11 = .ok (.iastore, 1) := by decide +kernel
theorem dX7_readsText_12 : decode cX7_readsText 12 = .ok (.aload_n 0, 1) := by decide +kernel
theorem dX7_readsText_13 : decode cX7_readsText 13 = .ok (.getfield 25, 3) := by decide +kernel
theorem dX7_readsText_16 : decode cX7_readsText 16 = .ok (.iload_n 1, 1) := by decide +kernel
theorem dX7_readsText_17 : decode cX7_readsText 17 = .ok (.iaload, 1) := by decide +kernel
theorem dX7_readsText_18 : decode cX7_readsText 18 = .ok (.ifCond .le 7, 3) := by decide +kernel
theorem dX7_readsText_21 : decode cX7_readsText 21 = .ok (.iconst 1, 1) := by decide +kernel
theorem dX7_readsText_22 : decode cX7_readsText 22 = .ok (.goto 4, 3) := by decide +kernel
theorem dX7_readsText_25 : decode cX7_readsText 25 = .ok (.iconst 0, 1) := by decide +kernel
theorem dX7_readsText_26 : decode cX7_readsText 26 = .ok (.istore_n 2, 1) := by decide +kernel
theorem dX7_readsText_27 : decode cX7_readsText 27 = .ok (.iload_n 2, 1) := by decide +kernel
theorem dX7_readsText_28 : decode cX7_readsText 28 = .ok (.ifCond .eq 92, 3) := by decide +kernel
theorem dX7_readsText_31 : decode cX7_readsText 31 = .ok (.aload_n 0, 1) := by decide +kernel
theorem dX7_readsText_32 : decode cX7_readsText 32 = .ok (.iload_n 1, 1) := by decide +kernel
theorem dX7_readsText_33 : decode cX7_readsText 33 = .ok (.invokevirtual 116, 3) := by decide +kernel
theorem dX7_readsText_36 : decode cX7_readsText 36 = .ok (.istore_n 3, 1) := by decide +kernel
theorem dX7_readsText_37 : decode cX7_readsText 37 = .ok (.iload_n 3, 1) := by decide +kernel
theorem dX7_readsText_38 : decode cX7_readsText 38 = .ok (.ifCond .eq 20, 3) := by decide +kernel
theorem dX7_readsText_41 : decode cX7_readsText 41 = .ok (.aload_n 0, 1) := by decide +kernel
theorem dX7_readsText_42 : decode cX7_readsText 42 = .ok (.getfield 94, 3) := by decide +kernel
theorem dX7_readsText_45 : decode cX7_readsText 45 = .ok (.aload_n 0, 1) := by decide +kernel
theorem dX7_readsText_46 : decode cX7_readsText 46 = .ok (.getfield 25, 3) := by decide +kernel
theorem dX7_readsText_49 : decode cX7_readsText 49 = .ok (.iload_n 1, 1) := by decide +kernel
theorem dX7_readsText_50 : decode cX7_readsText 50 = .ok (.iaload, 1) := by decide +kernel
theorem dX7_readsText_51 : decode cX7_readsText 51 = .ok (.if_icmp .ge 7, 3) := by decide +kernel
theorem dX7_readsText_54 : decode cX7_readsText 54 = .ok (.iconst 1, 1) := by decide +kernel
theorem dX7_readsText_55 : decode cX7_readsText 55 = .ok (.goto 4, 3) := by decide +kernel
theorem dX7_readsText_58 : decode cX7_readsText 58 = .ok (.iconst 0, 1) := by decide +kernel
theorem dX7_readsText_59 : decode cX7_readsText 59 = .ok (.istore_n 2, 1) := by decide +kernel
theorem dX7_readsText_60 : decode cX7_readsText 60 = .ok (.iload_n 3, 1) := by decide +kernel
theorem dX7_readsText_61 : decode cX7_readsText 61 = .ok (.ifCond .eq 26, 3) := by decide +kernel
theorem dX7_readsText_64 : decode cX7_readsText 64 = .ok (.iload_n 2, 1) := by decide +kernel
theorem dX7_readsText_65 : decode cX7_readsText 65 = .ok (.ifCond .eq 34, 3) := by decide +kernel
theorem dX7_readsText_68 : decode cX7_readsText 68 = .ok (.aload_n 0, 1) := by decide +kernel
theorem dX7_readsText_69 : decode cX7_readsText 69 = .ok (.getfield 22, 3) := by decide +kernel
theorem dX7_readsText_72 : decode cX7_readsText 72 = .ok (.bipush 60, 2) := by decide +kernel
theorem dX7_readsText_74 : decode cX7_readsText 74 = .ok (.iload_n 1, 1) := by decide +kernel
theorem dX7_readsText_75 : decode cX7_readsText 75 = .ok (.imul, 1) := by decide +kernel
theorem dX7_readsText_76 : decode cX7_readsText 76 = .ok (.aload_n 0, 1) := by decide +kernel
theorem dX7_readsText_77 : decode cX7_readsText 77 = .ok (.getfield 94, 3) := by decide +kernel
theorem dX7_readsText_80 : decode cX7_readsText 80 = .ok (.iadd, 1) := by decide +kernel
theorem dX7_readsText_81 : decode cX7_readsText 81 = .ok (.iaload, 1) := by decide +kernel
theorem dX7_readsText_82 : decode cX7_readsText 82 = .ok (.bipush 59, 2) := by decide +kernel
theorem dX7_readsText_84 : decode cX7_readsText 84 = .ok (.if_icmp .eq 15, 3) := by decide +kernel
theorem dX7_readsText_87 : decode cX7_readsText 87 = .ok (.aload_n 0, 1) := by decide +kernel
theorem dX7_readsText_88 : decode cX7_readsText 88 = .ok (.getfield 28, 3) := by decide +kernel
theorem dX7_readsText_91 : decode cX7_readsText 91 = .ok (.iload_n 1, 1) := by decide +kernel
theorem dX7_readsText_92 : decode cX7_readsText 92 = .ok (.iconst 0, 1) := by decide +kernel
theorem dX7_readsText_93 : decode cX7_readsText 93 = .ok (.iastore, 1) := by decide +kernel
theorem dX7_readsText_94 : decode cX7_readsText 94 = .ok (.aload_n 0, 1) := by decide +kernel
theorem dX7_readsText_95 : decode cX7_readsText 95 = .ok (.getfield 94, 3) := by decide +kernel
theorem dX7_readsText_98 : decode cX7_readsText 98 = .ok (.ireturn, 1) := by decide +kernel
theorem dX7_readsText_99 : decode cX7_readsText 99 = .ok (.aload_n 0, 1) := by decide +kernel
theorem dX7_readsText_100 : decode cX7_readsText 100 = .ok (.dup, 1) := by decide +kernel
theorem dX7_readsText_101 : decode cX7_readsText 101 = .ok (.getfield 94, 3) := by decide +kernel
theorem dX7_readsText_104 : decode cX7_readsText 104 = .ok (.iload_n 2, 1) := by decide +kernel
theorem dX7_readsText_105 : decode cX7_readsText 105 = .ok (.ifCond .eq 7, 3) := by decide +kernel
theorem dX7_readsText_108 : decode cX7_readsText 108 = .ok (.iconst 1, 1) := by decide +kernel
theorem dX7_readsText_109 : decode cX7_readsText 109 = .ok (.goto 4, 3) := by decide +kernel
theorem dX7_readsText_112 : decode cX7_readsText 112 = .ok (.iconst 0, 1) := by decide +kernel
theorem dX7_readsText_113 : decode cX7_readsText 113 = .ok (.iadd, 1) := by decide +kernel
theorem dX7_readsText_114 : decode cX7_readsText 114 = .ok (.putfield 94, 3) := by decide +kernel
theorem dX7_readsText_117 : decode cX7_readsText 117 = .ok (.goto (-90), 3) := by decide +kernel
theorem dX7_readsText_120 : decode cX7_readsText 120 = .ok (.iconst (-1), 1) := by decide +kernel
theorem dX7_readsText_121 : decode cX7_readsText 121 = .ok (.ireturn, 1) := by decide +kernel
theorem dX7_reads_0 : decode cX7_reads 0 = .ok (.iconst 0, 1) := by decide +kernel
theorem dX7_reads_1 : decode cX7_reads 1 = .ok (.istore_n 1, 1) := by decide +kernel
theorem dX7_reads_2 : decode cX7_reads 2 = .ok (.iload_n 1, 1) := by decide +kernel
theorem dX7_reads_3 : decode cX7_reads 3 = .ok (.iconst 3, 1) := by decide +kernel
theorem dX7_reads_4 : decode cX7_reads 4 = .ok (.if_icmp .ge 15, 3) := by decide +kernel
theorem dX7_reads_7 : decode cX7_reads 7 = .ok (.aload_n 0, 1) := by decide +kernel
theorem dX7_reads_8 : decode cX7_reads 8 = .ok (.iload_n 1, 1) := by decide +kernel
theorem dX7_reads_9 : decode cX7_reads 9 = .ok (.invokevirtual 119, 3) := by decide +kernel
theorem dX7_reads_12 : decode cX7_reads 12 = .ok (.pop, 1) := by decide +kernel
theorem dX7_reads_13 : decode cX7_reads 13 = .ok (.iinc 1 1, 3) := by decide +kernel
theorem dX7_reads_16 : decode cX7_reads 16 = .ok (.goto (-14), 3) := by decide +kernel
theorem dX7_reads_19 : decode cX7_reads 19 = .ok (.return_, 1) := by decide +kernel
theorem dX7_fault_0 : decode cX7_fault 0 = .ok (.iload_n 1, 1) := by decide +kernel
theorem dX7_fault_1 : decode cX7_fault 1 = .ok (.invokestatic 89, 3) := by decide +kernel
theorem dX7_fault_4 : decode cX7_fault 4 = .ok (.ifCond .eq 11, 3) := by decide +kernel
theorem dX7_fault_7 : decode cX7_fault 7 = .ok (.aload_n 0, 1) := by decide +kernel
theorem dX7_fault_8 : decode cX7_fault 8 = .ok (.iload_n 1, 1) := by decide +kernel
theorem dX7_fault_9 : decode cX7_fault 9 = .ok (.invokevirtual 119, 3) := by decide +kernel
theorem dX7_fault_12 : decode cX7_fault 12 = .ok (.goto 5, 3) := by decide +kernel
theorem dX7_fault_15 : decode cX7_fault 15 = .ok (.bipush (-2), 2) := by decide +kernel
theorem dX7_fault_17 : decode cX7_fault 17 = .ok (.ireturn, 1) := by decide +kernel
theorem dX7_isShip_0 : decode cX7_isShip 0 = .ok (.iload_n 1, 1) := by decide +kernel
theorem dX7_isShip_1 : decode cX7_isShip 1 = .ok (.i2l, 1) := by decide +kernel
theorem dX7_isShip_2 : decode cX7_isShip 2 = .ok (.lconst 0, 1) := by decide +kernel
theorem dX7_isShip_3 : decode cX7_isShip 3 = .ok (.aload_n 0, 1) := by decide +kernel
theorem dX7_isShip_4 : decode cX7_isShip 4 = .ok (.getfield 28, 3) := by decide +kernel
theorem dX7_isShip_7 : decode cX7_isShip 7 = .ok (.iconst 0, 1) := by decide +kernel
theorem dX7_isShip_8 : decode cX7_isShip 8 = .ok (.iaload, 1) := by decide +kernel
theorem dX7_isShip_9 : decode cX7_isShip 9 = .ok (.iconst 1, 1) := by decide +kernel
theorem dX7_isShip_10 : decode cX7_isShip 10 = .ok (.isub, 1) := by decide +kernel
theorem dX7_isShip_11 : decode cX7_isShip 11 = .ok (.i2l, 1) := by decide +kernel
theorem dX7_isShip_12 : decode cX7_isShip 12 = .ok (.invokestatic 61, 3) := by decide +kernel
theorem dX7_isShip_15 : decode cX7_isShip 15 = .ok (.ireturn, 1) := by decide +kernel
theorem dX7_isName_0 : decode cX7_isName 0 = .ok (.iload_n 1, 1) := by decide +kernel
theorem dX7_isName_1 : decode cX7_isName 1 = .ok (.i2l, 1) := by decide +kernel
theorem dX7_isName_2 : decode cX7_isName 2 = .ok (.lconst 0, 1) := by decide +kernel
theorem dX7_isName_3 : decode cX7_isName 3 = .ok (.aload_n 0, 1) := by decide +kernel
theorem dX7_isName_4 : decode cX7_isName 4 = .ok (.getfield 28, 3) := by decide +kernel
theorem dX7_isName_7 : decode cX7_isName 7 = .ok (.iconst 1, 1) := by decide +kernel
theorem dX7_isName_8 : decode cX7_isName 8 = .ok (.iaload, 1) := by decide +kernel
theorem dX7_isName_9 : decode cX7_isName 9 = .ok (.iconst 1, 1) := by decide +kernel
theorem dX7_isName_10 : decode cX7_isName 10 = .ok (.isub, 1) := by decide +kernel
theorem dX7_isName_11 : decode cX7_isName 11 = .ok (.i2l, 1) := by decide +kernel
theorem dX7_isName_12 : decode cX7_isName 12 = .ok (.invokestatic 61, 3) := by decide +kernel
theorem dX7_isName_15 : decode cX7_isName 15 = .ok (.ireturn, 1) := by decide +kernel
theorem dX7_isYear_0 : decode cX7_isYear 0 = .ok (.iload_n 0, 1) := by decide +kernel
theorem dX7_isYear_1 : decode cX7_isYear 1 = .ok (.i2l, 1) := by decide +kernel
theorem dX7_isYear_2 : decode cX7_isYear 2 = .ok (.lconst 0, 1) := by decide +kernel
theorem dX7_isYear_3 : decode cX7_isYear 3 = .ok (.ldc2_w 122, 3) := by decide +kernel
theorem dX7_isYear_6 : decode cX7_isYear 6 = .ok (.invokestatic 61, 3) := by decide +kernel
theorem dX7_isYear_9 : decode cX7_isYear 9 = .ok (.ireturn, 1) := by decide +kernel
theorem dX7_ship_0 : decode cX7_ship 0 = .ok (.aload_n 0, 1) := by decide +kernel
theorem dX7_ship_1 : decode cX7_ship 1 = .ok (.invokevirtual 124, 3) := by decide +kernel
theorem dX7_ship_4 : decode cX7_ship 4 = .ok (.aload_n 0, 1) := by decide +kernel
theorem dX7_ship_5 : decode cX7_ship 5 = .ok (.iload_n 1, 1) := by decide +kernel
theorem dX7_ship_6 : decode cX7_ship 6 = .ok (.invokevirtual 127, 3) := by decide +kernel
theorem dX7_ship_9 : decode cX7_ship 9 = .ok (.ifCond .eq 23, 3) := by decide +kernel
theorem dX7_ship_12 : decode cX7_ship 12 = .ok (.iload_n 2, 1) := by decide +kernel
theorem dX7_ship_13 : decode cX7_ship 13 = .ok (.invokestatic 130, 3) := by decide +kernel
theorem dX7_ship_16 : decode cX7_ship 16 = .ok (.ifCond .eq 16, 3) := by decide +kernel
theorem dX7_ship_19 : decode cX7_ship 19 = .ok (.aload_n 0, 1) := by decide +kernel
theorem dX7_ship_20 : decode cX7_ship 20 = .ok (.getfield 31, 3) := by decide +kernel
theorem dX7_ship_23 : decode cX7_ship 23 = .ok (.iconst 2, 1) := by decide +kernel
theorem dX7_ship_24 : decode cX7_ship 24 = .ok (.iload_n 1, 1) := by decide +kernel
theorem dX7_ship_25 : decode cX7_ship 25 = .ok (.imul, 1) := by decide +kernel
theorem dX7_ship_26 : decode cX7_ship 26 = .ok (.iload_n 2, 1) := by decide +kernel
theorem dX7_ship_27 : decode cX7_ship 27 = .ok (.iadd, 1) := by decide +kernel
theorem dX7_ship_28 : decode cX7_ship 28 = .ok (.iaload, 1) := by decide +kernel
theorem dX7_ship_29 : decode cX7_ship 29 = .ok (.goto 5, 3) := by decide +kernel
theorem dX7_ship_32 : decode cX7_ship 32 = .ok (.bipush (-2), 2) := by decide +kernel
theorem dX7_ship_34 : decode cX7_ship 34 = .ok (.ireturn, 1) := by decide +kernel
theorem dX7_name_0 : decode cX7_name 0 = .ok (.aload_n 0, 1) := by decide +kernel
theorem dX7_name_1 : decode cX7_name 1 = .ok (.invokevirtual 124, 3) := by decide +kernel
theorem dX7_name_4 : decode cX7_name 4 = .ok (.aload_n 0, 1) := by decide +kernel
theorem dX7_name_5 : decode cX7_name 5 = .ok (.iload_n 1, 1) := by decide +kernel
theorem dX7_name_6 : decode cX7_name 6 = .ok (.invokevirtual 133, 3) := by decide +kernel
theorem dX7_name_9 : decode cX7_name 9 = .ok (.ifCond .eq 28, 3) := by decide +kernel
theorem dX7_name_12 : decode cX7_name 12 = .ok (.iload_n 2, 1) := by decide +kernel
theorem dX7_name_13 : decode cX7_name 13 = .ok (.i2l, 1) := by decide +kernel
theorem dX7_name_14 : decode cX7_name 14 = .ok (.lconst 0, 1) := by decide +kernel
theorem dX7_name_15 : decode cX7_name 15 = .ok (.ldc2_w 74, 3) := by decide +kernel
theorem dX7_name_18 : decode cX7_name 18 = .ok (.invokestatic 61, 3) := by decide +kernel
theorem dX7_name_21 : decode cX7_name 21 = .ok (.ifCond .eq 16, 3) := by decide +kernel
theorem dX7_name_24 : decode cX7_name 24 = .ok (.aload_n 0, 1) := by decide +kernel
theorem dX7_name_25 : decode cX7_name 25 = .ok (.getfield 34, 3) := by decide +kernel
theorem dX7_name_28 : decode cX7_name 28 = .ok (.iconst 3, 1) := by decide +kernel
theorem dX7_name_29 : decode cX7_name 29 = .ok (.iload_n 1, 1) := by decide +kernel
theorem dX7_name_30 : decode cX7_name 30 = .ok (.imul, 1) := by decide +kernel
theorem dX7_name_31 : decode cX7_name 31 = .ok (.iload_n 2, 1) := by decide +kernel
theorem dX7_name_32 : decode cX7_name 32 = .ok (.iadd, 1) := by decide +kernel
theorem dX7_name_33 : decode cX7_name 33 = .ok (.iaload, 1) := by decide +kernel
theorem dX7_name_34 : decode cX7_name 34 = .ok (.goto 5, 3) := by decide +kernel
theorem dX7_name_37 : decode cX7_name 37 = .ok (.bipush (-2), 2) := by decide +kernel
theorem dX7_name_39 : decode cX7_name 39 = .ok (.ireturn, 1) := by decide +kernel
theorem dX7_struck_0 : decode cX7_struck 0 = .ok (.iload_n 1, 1) := by decide +kernel
theorem dX7_struck_1 : decode cX7_struck 1 = .ok (.i2l, 1) := by decide +kernel
theorem dX7_struck_2 : decode cX7_struck 2 = .ok (.lconst 0, 1) := by decide +kernel
theorem dX7_struck_3 : decode cX7_struck 3 = .ok (.ldc2_w 92, 3) := by decide +kernel
theorem dX7_struck_6 : decode cX7_struck 6 = .ok (.invokestatic 61, 3) := by decide +kernel
theorem dX7_struck_9 : decode cX7_struck 9 = .ok (.ifCond .ne 6, 3) := by decide +kernel
theorem dX7_struck_12 : decode cX7_struck 12 = .ok (.bipush (-2), 2) := by decide +kernel
theorem dX7_struck_14 : decode cX7_struck 14 = .ok (.ireturn, 1) := by decide +kernel
theorem dX7_struck_15 : decode cX7_struck 15 = .ok (.aload_n 0, 1) := by decide +kernel
theorem dX7_struck_16 : decode cX7_struck 16 = .ok (.getfield 136, 3) := by decide +kernel
theorem dX7_struck_19 : decode cX7_struck 19 = .ok (.istore_n 2, 1) := by decide +kernel
theorem dX7_struck_20 : decode cX7_struck 20 = .ok (.aload_n 0, 1) := by decide +kernel
theorem dX7_struck_21 : decode cX7_struck 21 = .ok (.iload_n 1, 1) := by decide +kernel
theorem dX7_struck_22 : decode cX7_struck 22 = .ok (.putfield 136, 3) := by decide +kernel
theorem dX7_struck_25 : decode cX7_struck 25 = .ok (.iload_n 2, 1) := by decide +kernel
theorem dX7_struck_26 : decode cX7_struck 26 = .ok (.ireturn, 1) := by decide +kernel
theorem dX7_bearerOf_0 : decode cX7_bearerOf 0 = .ok (.iload_n 1, 1) := by decide +kernel
theorem dX7_bearerOf_1 : decode cX7_bearerOf 1 = .ok (.istore_n 2, 1) := by decide +kernel
theorem dX7_bearerOf_2 : decode cX7_bearerOf 2 = .ok (.iconst 0, 1) := by decide +kernel
theorem dX7_bearerOf_3 : decode cX7_bearerOf 3 = .ok (.istore_n 3, 1) := by decide +kernel
theorem dX7_bearerOf_4 : decode cX7_bearerOf 4 = .ok (.iload_n 3, 1) := by decide +kernel
theorem dX7_bearerOf_5 : decode cX7_bearerOf 5 = .ok (.bipush 9, 2) := by decide +kernel
theorem dX7_bearerOf_7 : decode cX7_bearerOf 7 = .ok (.if_icmp .ge 59, 3) := by decide +kernel
theorem dX7_bearerOf_10 : decode cX7_bearerOf 10 = .ok (.aload_n 0, 1) := by decide +kernel
theorem dX7_bearerOf_11 : decode cX7_bearerOf 11 = .ok (.getfield 34, 3) := by decide +kernel
theorem dX7_bearerOf_14 : decode cX7_bearerOf 14 = .ok (.iconst 3, 1) := by decide +kernel
theorem dX7_bearerOf_15 : decode cX7_bearerOf 15 = .ok (.iload_n 2, 1) := by decide +kernel
theorem dX7_bearerOf_16 : decode cX7_bearerOf 16 = .ok (.imul, 1) := by decide +kernel
theorem dX7_bearerOf_17 : decode cX7_bearerOf 17 = .ok (.iconst 2, 1) := by decide +kernel
theorem dX7_bearerOf_18 : decode cX7_bearerOf 18 = .ok (.iadd, 1) := by decide +kernel
theorem dX7_bearerOf_19 : decode cX7_bearerOf 19 = .ok (.iaload, 1) := by decide +kernel
theorem dX7_bearerOf_20 : decode cX7_bearerOf 20 = .ok (.istore 4, 2) := by decide +kernel
theorem dX7_bearerOf_22 : decode cX7_bearerOf 22 = .ok (.iload 4, 2) := by decide +kernel
theorem dX7_bearerOf_24 : decode cX7_bearerOf 24 = .ok (.iconst (-1), 1) := by decide +kernel
theorem dX7_bearerOf_25 : decode cX7_bearerOf 25 = .ok (.if_icmp .eq 30, 3) := by decide +kernel
theorem dX7_bearerOf_28 : decode cX7_bearerOf 28 = .ok (.iload 4, 2) := by decide +kernel
theorem dX7_bearerOf_30 : decode cX7_bearerOf 30 = .ok (.iload_n 2, 1) := by decide +kernel
theorem dX7_bearerOf_31 : decode cX7_bearerOf 31 = .ok (.if_icmp .eq 24, 3) := by decide +kernel
theorem dX7_bearerOf_34 : decode cX7_bearerOf 34 = .ok (.aload_n 0, 1) := by decide +kernel
theorem dX7_bearerOf_35 : decode cX7_bearerOf 35 = .ok (.iload 4, 2) := by decide +kernel
theorem dX7_bearerOf_37 : decode cX7_bearerOf 37 = .ok (.invokevirtual 133, 3) := by decide +kernel
theorem dX7_bearerOf_40 : decode cX7_bearerOf 40 = .ok (.ifCond .eq 15, 3) := by decide +kernel
theorem dX7_bearerOf_43 : decode cX7_bearerOf 43 = .ok (.aload_n 0, 1) := by decide +kernel
theorem dX7_bearerOf_44 : decode cX7_bearerOf 44 = .ok (.getfield 136, 3) := by decide +kernel
theorem dX7_bearerOf_47 : decode cX7_bearerOf 47 = .ok (.iload 4, 2) := by decide +kernel
theorem dX7_bearerOf_49 : decode cX7_bearerOf 49 = .ok (.invokestatic 139, 3) := by decide +kernel
theorem dX7_bearerOf_52 : decode cX7_bearerOf 52 = .ok (.ifCond .eq 5, 3) := by decide +kernel
theorem dX7_bearerOf_55 : decode cX7_bearerOf 55 = .ok (.iload_n 2, 1) := by decide +kernel
theorem dX7_bearerOf_56 : decode cX7_bearerOf 56 = .ok (.ireturn, 1) := by decide +kernel
theorem dX7_bearerOf_57 : decode cX7_bearerOf 57 = .ok (.iload 4, 2) := by decide +kernel
theorem dX7_bearerOf_59 : decode cX7_bearerOf 59 = .ok (.istore_n 2, 1) := by decide +kernel
theorem dX7_bearerOf_60 : decode cX7_bearerOf 60 = .ok (.iinc 3 1, 3) := by decide +kernel
theorem dX7_bearerOf_63 : decode cX7_bearerOf 63 = .ok (.goto (-59), 3) := by decide +kernel
theorem dX7_bearerOf_66 : decode cX7_bearerOf 66 = .ok (.iconst (-1), 1) := by decide +kernel
theorem dX7_bearerOf_67 : decode cX7_bearerOf 67 = .ok (.ireturn, 1) := by decide +kernel
theorem dX7_stands_0 : decode cX7_stands 0 = .ok (.aload_n 0, 1) := by decide +kernel
theorem dX7_stands_1 : decode cX7_stands 1 = .ok (.aload_n 0, 1) := by decide +kernel
theorem dX7_stands_2 : decode cX7_stands 2 = .ok (.getfield 37, 3) := by decide +kernel
theorem dX7_stands_5 : decode cX7_stands 5 = .ok (.iconst 3, 1) := by decide +kernel
theorem dX7_stands_6 : decode cX7_stands 6 = .ok (.iload_n 1, 1) := by decide +kernel
theorem dX7_stands_7 : decode cX7_stands 7 = .ok (.imul, 1) := by decide +kernel
theorem dX7_stands_8 : decode cX7_stands 8 = .ok (.iaload, 1) := by decide +kernel
theorem dX7_stands_9 : decode cX7_stands 9 = .ok (.invokevirtual 127, 3) := by decide +kernel
theorem dX7_stands_12 : decode cX7_stands 12 = .ok (.ifCond .eq 44, 3) := by decide +kernel
theorem dX7_stands_15 : decode cX7_stands 15 = .ok (.aload_n 0, 1) := by decide +kernel
theorem dX7_stands_16 : decode cX7_stands 16 = .ok (.aload_n 0, 1) := by decide +kernel
theorem dX7_stands_17 : decode cX7_stands 17 = .ok (.getfield 37, 3) := by decide +kernel
theorem dX7_stands_20 : decode cX7_stands 20 = .ok (.iconst 3, 1) := by decide +kernel
theorem dX7_stands_21 : decode cX7_stands 21 = .ok (.iload_n 1, 1) := by decide +kernel
theorem dX7_stands_22 : decode cX7_stands 22 = .ok (.imul, 1) := by decide +kernel
theorem dX7_stands_23 : decode cX7_stands 23 = .ok (.iconst 1, 1) := by decide +kernel
theorem dX7_stands_24 : decode cX7_stands 24 = .ok (.iadd, 1) := by decide +kernel
theorem dX7_stands_25 : decode cX7_stands 25 = .ok (.iaload, 1) := by decide +kernel
theorem dX7_stands_26 : decode cX7_stands 26 = .ok (.invokevirtual 133, 3) := by decide +kernel
theorem dX7_stands_29 : decode cX7_stands 29 = .ok (.ifCond .eq 27, 3) := by decide +kernel
theorem dX7_stands_32 : decode cX7_stands 32 = .ok (.aload_n 0, 1) := by decide +kernel
theorem dX7_stands_33 : decode cX7_stands 33 = .ok (.getfield 136, 3) := by decide +kernel
theorem dX7_stands_36 : decode cX7_stands 36 = .ok (.aload_n 0, 1) := by decide +kernel
theorem dX7_stands_37 : decode cX7_stands 37 = .ok (.getfield 37, 3) := by decide +kernel
theorem dX7_stands_40 : decode cX7_stands 40 = .ok (.iconst 3, 1) := by decide +kernel
theorem dX7_stands_41 : decode cX7_stands 41 = .ok (.iload_n 1, 1) := by decide +kernel
theorem dX7_stands_42 : decode cX7_stands 42 = .ok (.imul, 1) := by decide +kernel
theorem dX7_stands_43 : decode cX7_stands 43 = .ok (.iconst 1, 1) := by decide +kernel
theorem dX7_stands_44 : decode cX7_stands 44 = .ok (.iadd, 1) := by decide +kernel
theorem dX7_stands_45 : decode cX7_stands 45 = .ok (.iaload, 1) := by decide +kernel
theorem dX7_stands_46 : decode cX7_stands 46 = .ok (.invokestatic 139, 3) := by decide +kernel
theorem dX7_stands_49 : decode cX7_stands 49 = .ok (.ifCond .ne 7, 3) := by decide +kernel
theorem dX7_stands_52 : decode cX7_stands 52 = .ok (.iconst 1, 1) := by decide +kernel
theorem dX7_stands_53 : decode cX7_stands 53 = .ok (.goto 4, 3) := by decide +kernel
theorem dX7_stands_56 : decode cX7_stands 56 = .ok (.iconst 0, 1) := by decide +kernel
theorem dX7_stands_57 : decode cX7_stands 57 = .ok (.ireturn, 1) := by decide +kernel
theorem dX7_dueOf_0 : decode cX7_dueOf 0 = .ok (.aload_n 0, 1) := by decide +kernel
theorem dX7_dueOf_1 : decode cX7_dueOf 1 = .ok (.iload_n 1, 1) := by decide +kernel
theorem dX7_dueOf_2 : decode cX7_dueOf 2 = .ok (.invokevirtual 143, 3) := by decide +kernel
theorem dX7_dueOf_5 : decode cX7_dueOf 5 = .ok (.ifCond .ne 5, 3) := by decide +kernel
theorem dX7_dueOf_8 : decode cX7_dueOf 8 = .ok (.iconst 0, 1) := by decide +kernel
theorem dX7_dueOf_9 : decode cX7_dueOf 9 = .ok (.ireturn, 1) := by decide +kernel
theorem dX7_dueOf_10 : decode cX7_dueOf 10 = .ok (.iconst 0, 1) := by decide +kernel
theorem dX7_dueOf_11 : decode cX7_dueOf 11 = .ok (.istore_n 2, 1) := by decide +kernel
theorem dX7_dueOf_12 : decode cX7_dueOf 12 = .ok (.iconst 0, 1) := by decide +kernel
theorem dX7_dueOf_13 : decode cX7_dueOf 13 = .ok (.istore_n 3, 1) := by decide +kernel
theorem dX7_dueOf_14 : decode cX7_dueOf 14 = .ok (.iload_n 3, 1) := by decide +kernel
theorem dX7_dueOf_15 : decode cX7_dueOf 15 = .ok (.aload_n 0, 1) := by decide +kernel
theorem dX7_dueOf_16 : decode cX7_dueOf 16 = .ok (.getfield 28, 3) := by decide +kernel
theorem dX7_dueOf_19 : decode cX7_dueOf 19 = .ok (.iconst 2, 1) := by decide +kernel
theorem dX7_dueOf_20 : decode cX7_dueOf 20 = .ok (.iaload, 1) := by decide +kernel
theorem dX7_dueOf_21 : decode cX7_dueOf 21 = .ok (.if_icmp .ge 53, 3) := by decide +kernel
theorem dX7_dueOf_24 : decode cX7_dueOf 24 = .ok (.iload_n 2, 1) := by decide +kernel
theorem dX7_dueOf_25 : decode cX7_dueOf 25 = .ok (.aload_n 0, 1) := by decide +kernel
theorem dX7_dueOf_26 : decode cX7_dueOf 26 = .ok (.iload_n 3, 1) := by decide +kernel
theorem dX7_dueOf_27 : decode cX7_dueOf 27 = .ok (.invokevirtual 143, 3) := by decide +kernel
theorem dX7_dueOf_30 : decode cX7_dueOf 30 = .ok (.ifCond .eq 35, 3) := by decide +kernel
theorem dX7_dueOf_33 : decode cX7_dueOf 33 = .ok (.aload_n 0, 1) := by decide +kernel
theorem dX7_dueOf_34 : decode cX7_dueOf 34 = .ok (.getfield 37, 3) := by decide +kernel
theorem dX7_dueOf_37 : decode cX7_dueOf 37 = .ok (.iconst 3, 1) := by decide +kernel
theorem dX7_dueOf_38 : decode cX7_dueOf 38 = .ok (.iload_n 3, 1) := by decide +kernel
theorem dX7_dueOf_39 : decode cX7_dueOf 39 = .ok (.imul, 1) := by decide +kernel
theorem dX7_dueOf_40 : decode cX7_dueOf 40 = .ok (.iaload, 1) := by decide +kernel
theorem dX7_dueOf_41 : decode cX7_dueOf 41 = .ok (.aload_n 0, 1) := by decide +kernel
theorem dX7_dueOf_42 : decode cX7_dueOf 42 = .ok (.getfield 37, 3) := by decide +kernel
theorem dX7_dueOf_45 : decode cX7_dueOf 45 = .ok (.iconst 3, 1) := by decide +kernel
theorem dX7_dueOf_46 : decode cX7_dueOf 46 = .ok (.iload_n 1, 1) := by decide +kernel
theorem dX7_dueOf_47 : decode cX7_dueOf 47 = .ok (.imul, 1) := by decide +kernel
theorem dX7_dueOf_48 : decode cX7_dueOf 48 = .ok (.iaload, 1) := by decide +kernel
theorem dX7_dueOf_49 : decode cX7_dueOf 49 = .ok (.if_icmp .ne 16, 3) := by decide +kernel
theorem dX7_dueOf_52 : decode cX7_dueOf 52 = .ok (.aload_n 0, 1) := by decide +kernel
theorem dX7_dueOf_53 : decode cX7_dueOf 53 = .ok (.getfield 37, 3) := by decide +kernel
theorem dX7_dueOf_56 : decode cX7_dueOf 56 = .ok (.iconst 3, 1) := by decide +kernel
theorem dX7_dueOf_57 : decode cX7_dueOf 57 = .ok (.iload_n 3, 1) := by decide +kernel
theorem dX7_dueOf_58 : decode cX7_dueOf 58 = .ok (.imul, 1) := by decide +kernel
theorem dX7_dueOf_59 : decode cX7_dueOf 59 = .ok (.iconst 2, 1) := by decide +kernel
theorem dX7_dueOf_60 : decode cX7_dueOf 60 = .ok (.iadd, 1) := by decide +kernel
theorem dX7_dueOf_61 : decode cX7_dueOf 61 = .ok (.iaload, 1) := by decide +kernel
theorem dX7_dueOf_62 : decode cX7_dueOf 62 = .ok (.goto 4, 3) := by decide +kernel
theorem dX7_dueOf_65 : decode cX7_dueOf 65 = .ok (.iconst 0, 1) := by decide +kernel
theorem dX7_dueOf_66 : decode cX7_dueOf 66 = .ok (.iadd, 1) := by decide +kernel
theorem dX7_dueOf_67 : decode cX7_dueOf 67 = .ok (.istore_n 2, 1) := by decide +kernel
theorem dX7_dueOf_68 : decode cX7_dueOf 68 = .ok (.iinc 3 1, 3) := by decide +kernel
theorem dX7_dueOf_71 : decode cX7_dueOf 71 = .ok (.goto (-57), 3) := by decide +kernel
theorem dX7_dueOf_74 : decode cX7_dueOf 74 = .ok (.aload_n 0, 1) := by decide +kernel
theorem dX7_dueOf_75 : decode cX7_dueOf 75 = .ok (.getfield 31, 3) := by decide +kernel
theorem dX7_dueOf_78 : decode cX7_dueOf 78 = .ok (.iconst 2, 1) := by decide +kernel
theorem dX7_dueOf_79 : decode cX7_dueOf 79 = .ok (.aload_n 0, 1) := by decide +kernel
theorem dX7_dueOf_80 : decode cX7_dueOf 80 = .ok (.getfield 37, 3) := by decide +kernel
theorem dX7_dueOf_83 : decode cX7_dueOf 83 = .ok (.iconst 3, 1) := by decide +kernel
theorem dX7_dueOf_84 : decode cX7_dueOf 84 = .ok (.iload_n 1, 1) := by decide +kernel
theorem dX7_dueOf_85 : decode cX7_dueOf 85 = .ok (.imul, 1) := by decide +kernel
theorem dX7_dueOf_86 : decode cX7_dueOf 86 = .ok (.iaload, 1) := by decide +kernel
theorem dX7_dueOf_87 : decode cX7_dueOf 87 = .ok (.imul, 1) := by decide +kernel
theorem dX7_dueOf_88 : decode cX7_dueOf 88 = .ok (.iaload, 1) := by decide +kernel
theorem dX7_dueOf_89 : decode cX7_dueOf 89 = .ok (.istore_n 3, 1) := by decide +kernel
theorem dX7_dueOf_90 : decode cX7_dueOf 90 = .ok (.iload_n 2, 1) := by decide +kernel
theorem dX7_dueOf_91 : decode cX7_dueOf 91 = .ok (.iload_n 3, 1) := by decide +kernel
theorem dX7_dueOf_92 : decode cX7_dueOf 92 = .ok (.if_icmp .le 20, 3) := by decide +kernel
theorem dX7_dueOf_95 : decode cX7_dueOf 95 = .ok (.aload_n 0, 1) := by decide +kernel
theorem dX7_dueOf_96 : decode cX7_dueOf 96 = .ok (.getfield 37, 3) := by decide +kernel
theorem dX7_dueOf_99 : decode cX7_dueOf 99 = .ok (.iconst 3, 1) := by decide +kernel
theorem dX7_dueOf_100 : decode cX7_dueOf 100 = .ok (.iload_n 1, 1) := by decide +kernel
theorem dX7_dueOf_101 : decode cX7_dueOf 101 = .ok (.imul, 1) := by decide +kernel
theorem dX7_dueOf_102 : decode cX7_dueOf 102 = .ok (.iconst 2, 1) := by decide +kernel
theorem dX7_dueOf_103 : decode cX7_dueOf 103 = .ok (.iadd, 1) := by decide +kernel
theorem dX7_dueOf_104 : decode cX7_dueOf 104 = .ok (.iaload, 1) := by decide +kernel
theorem dX7_dueOf_105 : decode cX7_dueOf 105 = .ok (.iload_n 3, 1) := by decide +kernel
theorem dX7_dueOf_106 : decode cX7_dueOf 106 = .ok (.imul, 1) := by decide +kernel
theorem dX7_dueOf_107 : decode cX7_dueOf 107 = .ok (.iload_n 2, 1) := by decide +kernel
theorem dX7_dueOf_108 : decode cX7_dueOf 108 = .ok (.idiv, 1) := by decide +kernel
theorem dX7_dueOf_109 : decode cX7_dueOf 109 = .ok (.goto 13, 3) := by decide +kernel
theorem dX7_dueOf_112 : decode cX7_dueOf 112 = .ok (.aload_n 0, 1) := by decide +kernel
theorem dX7_dueOf_113 : decode cX7_dueOf 113 = .ok (.getfield 37, 3) := by decide +kernel
theorem dX7_dueOf_116 : decode cX7_dueOf 116 = .ok (.iconst 3, 1) := by decide +kernel
theorem dX7_dueOf_117 : decode cX7_dueOf 117 = .ok (.iload_n 1, 1) := by decide +kernel
theorem dX7_dueOf_118 : decode cX7_dueOf 118 = .ok (.imul, 1) := by decide +kernel
theorem dX7_dueOf_119 : decode cX7_dueOf 119 = .ok (.iconst 2, 1) := by decide +kernel
theorem dX7_dueOf_120 : decode cX7_dueOf 120 = .ok (.iadd, 1) := by decide +kernel
theorem dX7_dueOf_121 : decode cX7_dueOf 121 = .ok (.iaload, 1) := by decide +kernel
theorem dX7_dueOf_122 : decode cX7_dueOf 122 = .ok (.ireturn, 1) := by decide +kernel
theorem dX7_lineOf_0 : decode cX7_lineOf 0 = .ok (.iload_n 2, 1) := by decide +kernel
theorem dX7_lineOf_1 : decode cX7_lineOf 1 = .ok (.iconst 3, 1) := by decide +kernel
theorem dX7_lineOf_2 : decode cX7_lineOf 2 = .ok (.if_icmp .ge 16, 3) := by decide +kernel
theorem dX7_lineOf_5 : decode cX7_lineOf 5 = .ok (.aload_n 0, 1) := by decide +kernel
theorem dX7_lineOf_6 : decode cX7_lineOf 6 = .ok (.getfield 37, 3) := by decide +kernel
theorem dX7_lineOf_9 : decode cX7_lineOf 9 = .ok (.iconst 3, 1) := by decide +kernel
theorem dX7_lineOf_10 : decode cX7_lineOf 10 = .ok (.iload_n 1, 1) := by decide +kernel
theorem dX7_lineOf_11 : decode cX7_lineOf 11 = .ok (.imul, 1) := by decide +kernel
theorem dX7_lineOf_12 : decode cX7_lineOf 12 = .ok (.iload_n 2, 1) := by decide +kernel
theorem dX7_lineOf_13 : decode cX7_lineOf 13 = .ok (.iadd, 1) := by decide +kernel
theorem dX7_lineOf_14 : decode cX7_lineOf 14 = .ok (.iaload, 1) := by decide +kernel
theorem dX7_lineOf_15 : decode cX7_lineOf 15 = .ok (.goto 8, 3) := by decide +kernel
theorem dX7_lineOf_18 : decode cX7_lineOf 18 = .ok (.aload_n 0, 1) := by decide +kernel
theorem dX7_lineOf_19 : decode cX7_lineOf 19 = .ok (.iload_n 1, 1) := by decide +kernel
theorem dX7_lineOf_20 : decode cX7_lineOf 20 = .ok (.invokevirtual 146, 3) := by decide +kernel
theorem dX7_lineOf_23 : decode cX7_lineOf 23 = .ok (.ireturn, 1) := by decide +kernel
theorem dX7_line_0 : decode cX7_line 0 = .ok (.aload_n 0, 1) := by decide +kernel
theorem dX7_line_1 : decode cX7_line 1 = .ok (.invokevirtual 124, 3) := by decide +kernel
theorem dX7_line_4 : decode cX7_line 4 = .ok (.iload_n 1, 1) := by decide +kernel
theorem dX7_line_5 : decode cX7_line 5 = .ok (.i2l, 1) := by decide +kernel
theorem dX7_line_6 : decode cX7_line 6 = .ok (.lconst 0, 1) := by decide +kernel
theorem dX7_line_7 : decode cX7_line 7 = .ok (.aload_n 0, 1) := by decide +kernel
theorem dX7_line_8 : decode cX7_line 8 = .ok (.getfield 28, 3) := by decide +kernel
theorem dX7_line_11 : decode cX7_line 11 = .ok (.iconst 2, 1) := by decide +kernel
theorem dX7_line_12 : decode cX7_line 12 = .ok (.iaload, 1) := by decide +kernel
theorem dX7_line_13 : decode cX7_line 13 = .ok (.iconst 1, 1) := by decide +kernel
theorem dX7_line_14 : decode cX7_line 14 = .ok (.isub, 1) := by decide +kernel
theorem dX7_line_15 : decode cX7_line 15 = .ok (.i2l, 1) := by decide +kernel
theorem dX7_line_16 : decode cX7_line 16 = .ok (.invokestatic 61, 3) := by decide +kernel
theorem dX7_line_19 : decode cX7_line 19 = .ok (.ifCond .eq 24, 3) := by decide +kernel
theorem dX7_line_22 : decode cX7_line 22 = .ok (.iload_n 2, 1) := by decide +kernel
theorem dX7_line_23 : decode cX7_line 23 = .ok (.i2l, 1) := by decide +kernel
theorem dX7_line_24 : decode cX7_line 24 = .ok (.lconst 0, 1) := by decide +kernel
theorem dX7_line_25 : decode cX7_line 25 = .ok (.ldc2_w 68, 3) := by decide +kernel
theorem dX7_line_28 : decode cX7_line 28 = .ok (.invokestatic 61, 3) := by decide +kernel
theorem dX7_line_31 : decode cX7_line 31 = .ok (.ifCond .eq 12, 3) := by decide +kernel
theorem dX7_line_34 : decode cX7_line 34 = .ok (.aload_n 0, 1) := by decide +kernel
theorem dX7_line_35 : decode cX7_line 35 = .ok (.iload_n 1, 1) := by decide +kernel
theorem dX7_line_36 : decode cX7_line 36 = .ok (.iload_n 2, 1) := by decide +kernel
theorem dX7_line_37 : decode cX7_line 37 = .ok (.invokevirtual 149, 3) := by decide +kernel
theorem dX7_line_40 : decode cX7_line 40 = .ok (.goto 5, 3) := by decide +kernel
theorem dX7_line_43 : decode cX7_line 43 = .ok (.bipush (-2), 2) := by decide +kernel
theorem dX7_line_45 : decode cX7_line 45 = .ok (.ireturn, 1) := by decide +kernel
theorem dX7_bearersOf_0 : decode cX7_bearersOf 0 = .ok (.iconst 0, 1) := by decide +kernel
theorem dX7_bearersOf_1 : decode cX7_bearersOf 1 = .ok (.istore_n 2, 1) := by decide +kernel
theorem dX7_bearersOf_2 : decode cX7_bearersOf 2 = .ok (.iconst 0, 1) := by decide +kernel
theorem dX7_bearersOf_3 : decode cX7_bearersOf 3 = .ok (.istore_n 3, 1) := by decide +kernel
theorem dX7_bearersOf_4 : decode cX7_bearersOf 4 = .ok (.iload_n 3, 1) := by decide +kernel
theorem dX7_bearersOf_5 : decode cX7_bearersOf 5 = .ok (.aload_n 0, 1) := by decide +kernel
theorem dX7_bearersOf_6 : decode cX7_bearersOf 6 = .ok (.getfield 28, 3) := by decide +kernel
theorem dX7_bearersOf_9 : decode cX7_bearersOf 9 = .ok (.iconst 1, 1) := by decide +kernel
theorem dX7_bearersOf_10 : decode cX7_bearersOf 10 = .ok (.iaload, 1) := by decide +kernel
theorem dX7_bearersOf_11 : decode cX7_bearersOf 11 = .ok (.if_icmp .ge 28, 3) := by decide +kernel
theorem dX7_bearersOf_14 : decode cX7_bearersOf 14 = .ok (.iload_n 2, 1) := by decide +kernel
theorem dX7_bearersOf_15 : decode cX7_bearersOf 15 = .ok (.aload_n 0, 1) := by decide +kernel
theorem dX7_bearersOf_16 : decode cX7_bearersOf 16 = .ok (.iload_n 3, 1) := by decide +kernel
theorem dX7_bearersOf_17 : decode cX7_bearersOf 17 = .ok (.invokevirtual 152, 3) := by decide +kernel
theorem dX7_bearersOf_20 : decode cX7_bearersOf 20 = .ok (.iload_n 1, 1) := by decide +kernel
theorem dX7_bearersOf_21 : decode cX7_bearersOf 21 = .ok (.if_icmp .ne 9, 3) := by decide +kernel
theorem dX7_bearersOf_24 : decode cX7_bearersOf 24 = .ok (.iconst 1, 1) := by decide +kernel
theorem dX7_bearersOf_25 : decode cX7_bearersOf 25 = .ok (.iload_n 3, 1) := by decide +kernel
theorem dX7_bearersOf_26 : decode cX7_bearersOf 26 = .ok (.ishl, 1) := by decide +kernel
end
section
theorem dX7_bearersOf_27 : decode cX7_bearersOf 27 = .ok (.goto 4, 3) := by decide +kernel
theorem dX7_bearersOf_30 : decode cX7_bearersOf 30 = .ok (.iconst 0, 1) := by decide +kernel
theorem dX7_bearersOf_31 : decode cX7_bearersOf 31 = .ok (.ior, 1) := by decide +kernel
theorem dX7_bearersOf_32 : decode cX7_bearersOf 32 = .ok (.istore_n 2, 1) := by decide +kernel
theorem dX7_bearersOf_33 : decode cX7_bearersOf 33 = .ok (.iinc 3 1, 3) := by decide +kernel
theorem dX7_bearersOf_36 : decode cX7_bearersOf 36 = .ok (.goto (-32), 3) := by decide +kernel
theorem dX7_bearersOf_39 : decode cX7_bearersOf 39 = .ok (.iload_n 2, 1) := by decide +kernel
theorem dX7_bearersOf_40 : decode cX7_bearersOf 40 = .ok (.ireturn, 1) := by decide +kernel
theorem dX7_bearerBy_0 : decode cX7_bearerBy 0 = .ok (.iload_n 2, 1) := by decide +kernel
theorem dX7_bearerBy_1 : decode cX7_bearerBy 1 = .ok (.ifCond .ne 11, 3) := by decide +kernel
theorem dX7_bearerBy_4 : decode cX7_bearerBy 4 = .ok (.aload_n 0, 1) := by decide +kernel
theorem dX7_bearerBy_5 : decode cX7_bearerBy 5 = .ok (.iload_n 1, 1) := by decide +kernel
theorem dX7_bearerBy_6 : decode cX7_bearerBy 6 = .ok (.invokevirtual 152, 3) := by decide +kernel
theorem dX7_bearerBy_9 : decode cX7_bearerBy 9 = .ok (.goto 30, 3) := by decide +kernel
theorem dX7_bearerBy_12 : decode cX7_bearerBy 12 = .ok (.iload_n 2, 1) := by decide +kernel
theorem dX7_bearerBy_13 : decode cX7_bearerBy 13 = .ok (.iconst 1, 1) := by decide +kernel
theorem dX7_bearerBy_14 : decode cX7_bearerBy 14 = .ok (.if_icmp .ne 11, 3) := by decide +kernel
theorem dX7_bearerBy_17 : decode cX7_bearerBy 17 = .ok (.aload_n 0, 1) := by decide +kernel
theorem dX7_bearerBy_18 : decode cX7_bearerBy 18 = .ok (.iload_n 1, 1) := by decide +kernel
theorem dX7_bearerBy_19 : decode cX7_bearerBy 19 = .ok (.invokevirtual 155, 3) := by decide +kernel
theorem dX7_bearerBy_22 : decode cX7_bearerBy 22 = .ok (.goto 17, 3) := by decide +kernel
theorem dX7_bearerBy_25 : decode cX7_bearerBy 25 = .ok (.aload_n 0, 1) := by decide +kernel
theorem dX7_bearerBy_26 : decode cX7_bearerBy 26 = .ok (.iload_n 1, 1) := by decide +kernel
theorem dX7_bearerBy_27 : decode cX7_bearerBy 27 = .ok (.invokevirtual 152, 3) := by decide +kernel
theorem dX7_bearerBy_30 : decode cX7_bearerBy 30 = .ok (.iconst (-1), 1) := by decide +kernel
theorem dX7_bearerBy_31 : decode cX7_bearerBy 31 = .ok (.if_icmp .ne 7, 3) := by decide +kernel
theorem dX7_bearerBy_34 : decode cX7_bearerBy 34 = .ok (.iconst 1, 1) := by decide +kernel
theorem dX7_bearerBy_35 : decode cX7_bearerBy 35 = .ok (.goto 4, 3) := by decide +kernel
theorem dX7_bearerBy_38 : decode cX7_bearerBy 38 = .ok (.iconst 0, 1) := by decide +kernel
theorem dX7_bearerBy_39 : decode cX7_bearerBy 39 = .ok (.ireturn, 1) := by decide +kernel
theorem dX7_bearer_0 : decode cX7_bearer 0 = .ok (.aload_n 0, 1) := by decide +kernel
theorem dX7_bearer_1 : decode cX7_bearer 1 = .ok (.invokevirtual 124, 3) := by decide +kernel
theorem dX7_bearer_4 : decode cX7_bearer 4 = .ok (.aload_n 0, 1) := by decide +kernel
theorem dX7_bearer_5 : decode cX7_bearer 5 = .ok (.iload_n 1, 1) := by decide +kernel
theorem dX7_bearer_6 : decode cX7_bearer 6 = .ok (.invokevirtual 133, 3) := by decide +kernel
theorem dX7_bearer_9 : decode cX7_bearer 9 = .ok (.ifCond .eq 24, 3) := by decide +kernel
theorem dX7_bearer_12 : decode cX7_bearer 12 = .ok (.iload_n 2, 1) := by decide +kernel
theorem dX7_bearer_13 : decode cX7_bearer 13 = .ok (.i2l, 1) := by decide +kernel
theorem dX7_bearer_14 : decode cX7_bearer 14 = .ok (.lconst 0, 1) := by decide +kernel
theorem dX7_bearer_15 : decode cX7_bearer 15 = .ok (.ldc2_w 74, 3) := by decide +kernel
theorem dX7_bearer_18 : decode cX7_bearer 18 = .ok (.invokestatic 61, 3) := by decide +kernel
theorem dX7_bearer_21 : decode cX7_bearer 21 = .ok (.ifCond .eq 12, 3) := by decide +kernel
theorem dX7_bearer_24 : decode cX7_bearer 24 = .ok (.aload_n 0, 1) := by decide +kernel
theorem dX7_bearer_25 : decode cX7_bearer 25 = .ok (.iload_n 1, 1) := by decide +kernel
theorem dX7_bearer_26 : decode cX7_bearer 26 = .ok (.iload_n 2, 1) := by decide +kernel
theorem dX7_bearer_27 : decode cX7_bearer 27 = .ok (.invokevirtual 158, 3) := by decide +kernel
theorem dX7_bearer_30 : decode cX7_bearer 30 = .ok (.goto 5, 3) := by decide +kernel
theorem dX7_bearer_33 : decode cX7_bearer 33 = .ok (.bipush (-2), 2) := by decide +kernel
theorem dX7_bearer_35 : decode cX7_bearer 35 = .ok (.ireturn, 1) := by decide +kernel
theorem dX7_borneOf_0 : decode cX7_borneOf 0 = .ok (.iconst 0, 1) := by decide +kernel
theorem dX7_borneOf_1 : decode cX7_borneOf 1 = .ok (.istore_n 3, 1) := by decide +kernel
theorem dX7_borneOf_2 : decode cX7_borneOf 2 = .ok (.iconst 0, 1) := by decide +kernel
theorem dX7_borneOf_3 : decode cX7_borneOf 3 = .ok (.istore 4, 2) := by decide +kernel
theorem dX7_borneOf_5 : decode cX7_borneOf 5 = .ok (.iload 4, 2) := by decide +kernel
theorem dX7_borneOf_7 : decode cX7_borneOf 7 = .ok (.aload_n 0, 1) := by decide +kernel
theorem dX7_borneOf_8 : decode cX7_borneOf 8 = .ok (.getfield 28, 3) := by decide +kernel
theorem dX7_borneOf_11 : decode cX7_borneOf 11 = .ok (.iconst 2, 1) := by decide +kernel
theorem dX7_borneOf_12 : decode cX7_borneOf 12 = .ok (.iaload, 1) := by decide +kernel
theorem dX7_borneOf_13 : decode cX7_borneOf 13 = .ok (.if_icmp .ge 63, 3) := by decide +kernel
theorem dX7_borneOf_16 : decode cX7_borneOf 16 = .ok (.iload_n 3, 1) := by decide +kernel
theorem dX7_borneOf_17 : decode cX7_borneOf 17 = .ok (.aload_n 0, 1) := by decide +kernel
theorem dX7_borneOf_18 : decode cX7_borneOf 18 = .ok (.getfield 37, 3) := by decide +kernel
theorem dX7_borneOf_21 : decode cX7_borneOf 21 = .ok (.iconst 3, 1) := by decide +kernel
theorem dX7_borneOf_22 : decode cX7_borneOf 22 = .ok (.iload 4, 2) := by decide +kernel
theorem dX7_borneOf_24 : decode cX7_borneOf 24 = .ok (.imul, 1) := by decide +kernel
theorem dX7_borneOf_25 : decode cX7_borneOf 25 = .ok (.iaload, 1) := by decide +kernel
theorem dX7_borneOf_26 : decode cX7_borneOf 26 = .ok (.iload_n 1, 1) := by decide +kernel
theorem dX7_borneOf_27 : decode cX7_borneOf 27 = .ok (.if_icmp .ne 40, 3) := by decide +kernel
theorem dX7_borneOf_30 : decode cX7_borneOf 30 = .ok (.aload_n 0, 1) := by decide +kernel
theorem dX7_borneOf_31 : decode cX7_borneOf 31 = .ok (.iload 4, 2) := by decide +kernel
theorem dX7_borneOf_33 : decode cX7_borneOf 33 = .ok (.invokevirtual 143, 3) := by decide +kernel
theorem dX7_borneOf_36 : decode cX7_borneOf 36 = .ok (.ifCond .eq 31, 3) := by decide +kernel
theorem dX7_borneOf_39 : decode cX7_borneOf 39 = .ok (.aload_n 0, 1) := by decide +kernel
theorem dX7_borneOf_40 : decode cX7_borneOf 40 = .ok (.aload_n 0, 1) := by decide +kernel
theorem dX7_borneOf_41 : decode cX7_borneOf 41 = .ok (.getfield 37, 3) := by decide +kernel
theorem dX7_borneOf_44 : decode cX7_borneOf 44 = .ok (.iconst 3, 1) := by decide +kernel
theorem dX7_borneOf_45 : decode cX7_borneOf 45 = .ok (.iload 4, 2) := by decide +kernel
theorem dX7_borneOf_47 : decode cX7_borneOf 47 = .ok (.imul, 1) := by decide +kernel
theorem dX7_borneOf_48 : decode cX7_borneOf 48 = .ok (.iconst 1, 1) := by decide +kernel
theorem dX7_borneOf_49 : decode cX7_borneOf 49 = .ok (.iadd, 1) := by decide +kernel
theorem dX7_borneOf_50 : decode cX7_borneOf 50 = .ok (.iaload, 1) := by decide +kernel
theorem dX7_borneOf_51 : decode cX7_borneOf 51 = .ok (.invokevirtual 152, 3) := by decide +kernel
theorem dX7_borneOf_54 : decode cX7_borneOf 54 = .ok (.iload_n 2, 1) := by decide +kernel
theorem dX7_borneOf_55 : decode cX7_borneOf 55 = .ok (.if_icmp .ne 12, 3) := by decide +kernel
theorem dX7_borneOf_58 : decode cX7_borneOf 58 = .ok (.aload_n 0, 1) := by decide +kernel
theorem dX7_borneOf_59 : decode cX7_borneOf 59 = .ok (.iload 4, 2) := by decide +kernel
theorem dX7_borneOf_61 : decode cX7_borneOf 61 = .ok (.invokevirtual 146, 3) := by decide +kernel
theorem dX7_borneOf_64 : decode cX7_borneOf 64 = .ok (.goto 4, 3) := by decide +kernel
theorem dX7_borneOf_67 : decode cX7_borneOf 67 = .ok (.iconst 0, 1) := by decide +kernel
theorem dX7_borneOf_68 : decode cX7_borneOf 68 = .ok (.iadd, 1) := by decide +kernel
theorem dX7_borneOf_69 : decode cX7_borneOf 69 = .ok (.istore_n 3, 1) := by decide +kernel
theorem dX7_borneOf_70 : decode cX7_borneOf 70 = .ok (.iinc 4 1, 3) := by decide +kernel
theorem dX7_borneOf_73 : decode cX7_borneOf 73 = .ok (.goto (-68), 3) := by decide +kernel
theorem dX7_borneOf_76 : decode cX7_borneOf 76 = .ok (.iload_n 3, 1) := by decide +kernel
theorem dX7_borneOf_77 : decode cX7_borneOf 77 = .ok (.ireturn, 1) := by decide +kernel
theorem dX7_borne_0 : decode cX7_borne 0 = .ok (.aload_n 0, 1) := by decide +kernel
theorem dX7_borne_1 : decode cX7_borne 1 = .ok (.invokevirtual 124, 3) := by decide +kernel
theorem dX7_borne_4 : decode cX7_borne 4 = .ok (.aload_n 0, 1) := by decide +kernel
theorem dX7_borne_5 : decode cX7_borne 5 = .ok (.iload_n 1, 1) := by decide +kernel
theorem dX7_borne_6 : decode cX7_borne 6 = .ok (.invokevirtual 127, 3) := by decide +kernel
theorem dX7_borne_9 : decode cX7_borne 9 = .ok (.ifCond .eq 20, 3) := by decide +kernel
theorem dX7_borne_12 : decode cX7_borne 12 = .ok (.aload_n 0, 1) := by decide +kernel
theorem dX7_borne_13 : decode cX7_borne 13 = .ok (.iload_n 2, 1) := by decide +kernel
theorem dX7_borne_14 : decode cX7_borne 14 = .ok (.invokevirtual 133, 3) := by decide +kernel
theorem dX7_borne_17 : decode cX7_borne 17 = .ok (.ifCond .eq 12, 3) := by decide +kernel
theorem dX7_borne_20 : decode cX7_borne 20 = .ok (.aload_n 0, 1) := by decide +kernel
theorem dX7_borne_21 : decode cX7_borne 21 = .ok (.iload_n 1, 1) := by decide +kernel
theorem dX7_borne_22 : decode cX7_borne 22 = .ok (.iload_n 2, 1) := by decide +kernel
theorem dX7_borne_23 : decode cX7_borne 23 = .ok (.invokevirtual 161, 3) := by decide +kernel
theorem dX7_borne_26 : decode cX7_borne 26 = .ok (.goto 5, 3) := by decide +kernel
theorem dX7_borne_29 : decode cX7_borne 29 = .ok (.bipush (-2), 2) := by decide +kernel
theorem dX7_borne_31 : decode cX7_borne 31 = .ok (.ireturn, 1) := by decide +kernel
theorem dX7_unborne_0 : decode cX7_unborne 0 = .ok (.aload_n 0, 1) := by decide +kernel
theorem dX7_unborne_1 : decode cX7_unborne 1 = .ok (.invokevirtual 124, 3) := by decide +kernel
theorem dX7_unborne_4 : decode cX7_unborne 4 = .ok (.aload_n 0, 1) := by decide +kernel
theorem dX7_unborne_5 : decode cX7_unborne 5 = .ok (.iload_n 1, 1) := by decide +kernel
theorem dX7_unborne_6 : decode cX7_unborne 6 = .ok (.invokevirtual 127, 3) := by decide +kernel
theorem dX7_unborne_9 : decode cX7_unborne 9 = .ok (.ifCond .eq 12, 3) := by decide +kernel
theorem dX7_unborne_12 : decode cX7_unborne 12 = .ok (.aload_n 0, 1) := by decide +kernel
theorem dX7_unborne_13 : decode cX7_unborne 13 = .ok (.iload_n 1, 1) := by decide +kernel
theorem dX7_unborne_14 : decode cX7_unborne 14 = .ok (.iconst (-1), 1) := by decide +kernel
theorem dX7_unborne_15 : decode cX7_unborne 15 = .ok (.invokevirtual 161, 3) := by decide +kernel
theorem dX7_unborne_18 : decode cX7_unborne 18 = .ok (.goto 5, 3) := by decide +kernel
theorem dX7_unborne_21 : decode cX7_unborne 21 = .ok (.bipush (-2), 2) := by decide +kernel
theorem dX7_unborne_23 : decode cX7_unborne 23 = .ok (.ireturn, 1) := by decide +kernel
theorem dX7_loss_0 : decode cX7_loss 0 = .ok (.iload_n 1, 1) := by decide +kernel
theorem dX7_loss_1 : decode cX7_loss 1 = .ok (.invokestatic 164, 3) := by decide +kernel
theorem dX7_loss_4 : decode cX7_loss 4 = .ok (.ifCond .eq 15, 3) := by decide +kernel
theorem dX7_loss_7 : decode cX7_loss 7 = .ok (.iload_n 2, 1) := by decide +kernel
theorem dX7_loss_8 : decode cX7_loss 8 = .ok (.i2l, 1) := by decide +kernel
theorem dX7_loss_9 : decode cX7_loss 9 = .ok (.lconst 0, 1) := by decide +kernel
theorem dX7_loss_10 : decode cX7_loss 10 = .ok (.ldc2_w 167, 3) := by decide +kernel
theorem dX7_loss_13 : decode cX7_loss 13 = .ok (.invokestatic 61, 3) := by decide +kernel
theorem dX7_loss_16 : decode cX7_loss 16 = .ok (.ifCond .ne 6, 3) := by decide +kernel
theorem dX7_loss_19 : decode cX7_loss 19 = .ok (.bipush (-2), 2) := by decide +kernel
theorem dX7_loss_21 : decode cX7_loss 21 = .ok (.ireturn, 1) := by decide +kernel
theorem dX7_loss_22 : decode cX7_loss 22 = .ok (.aload_n 0, 1) := by decide +kernel
theorem dX7_loss_23 : decode cX7_loss 23 = .ok (.getfield 169, 3) := by decide +kernel
theorem dX7_loss_26 : decode cX7_loss 26 = .ok (.bipush 12, 2) := by decide +kernel
theorem dX7_loss_28 : decode cX7_loss 28 = .ok (.if_icmp .ne 6, 3) := by decide +kernel
theorem dX7_loss_31 : decode cX7_loss 31 = .ok (.bipush (-4), 2) := by decide +kernel
theorem dX7_loss_33 : decode cX7_loss 33 = .ok (.ireturn, 1) := by decide +kernel
theorem dX7_loss_34 : decode cX7_loss 34 = .ok (.aload_n 0, 1) := by decide +kernel
theorem dX7_loss_35 : decode cX7_loss 35 = .ok (.getfield 40, 3) := by decide +kernel
theorem dX7_loss_38 : decode cX7_loss 38 = .ok (.iconst 2, 1) := by decide +kernel
theorem dX7_loss_39 : decode cX7_loss 39 = .ok (.aload_n 0, 1) := by decide +kernel
theorem dX7_loss_40 : decode cX7_loss 40 = .ok (.getfield 169, 3) := by decide +kernel
theorem dX7_loss_43 : decode cX7_loss 43 = .ok (.imul, 1) := by decide +kernel
theorem dX7_loss_44 : decode cX7_loss 44 = .ok (.iload_n 1, 1) := by decide +kernel
theorem dX7_loss_45 : decode cX7_loss 45 = .ok (.iastore, 1) := by decide +kernel
theorem dX7_loss_46 : decode cX7_loss 46 = .ok (.aload_n 0, 1) := by decide +kernel
theorem dX7_loss_47 : decode cX7_loss 47 = .ok (.getfield 40, 3) := by decide +kernel
theorem dX7_loss_50 : decode cX7_loss 50 = .ok (.iconst 2, 1) := by decide +kernel
theorem dX7_loss_51 : decode cX7_loss 51 = .ok (.aload_n 0, 1) := by decide +kernel
theorem dX7_loss_52 : decode cX7_loss 52 = .ok (.getfield 169, 3) := by decide +kernel
theorem dX7_loss_55 : decode cX7_loss 55 = .ok (.imul, 1) := by decide +kernel
theorem dX7_loss_56 : decode cX7_loss 56 = .ok (.iconst 1, 1) := by decide +kernel
theorem dX7_loss_57 : decode cX7_loss 57 = .ok (.iadd, 1) := by decide +kernel
theorem dX7_loss_58 : decode cX7_loss 58 = .ok (.iload_n 2, 1) := by decide +kernel
theorem dX7_loss_59 : decode cX7_loss 59 = .ok (.iastore, 1) := by decide +kernel
theorem dX7_loss_60 : decode cX7_loss 60 = .ok (.aload_n 0, 1) := by decide +kernel
theorem dX7_loss_61 : decode cX7_loss 61 = .ok (.dup, 1) := by decide +kernel
theorem dX7_loss_62 : decode cX7_loss 62 = .ok (.getfield 169, 3) := by decide +kernel
theorem dX7_loss_65 : decode cX7_loss 65 = .ok (.iconst 1, 1) := by decide +kernel
theorem dX7_loss_66 : decode cX7_loss 66 = .ok (.iadd, 1) := by decide +kernel
theorem dX7_loss_67 : decode cX7_loss 67 = .ok (.putfield 169, 3) := by decide +kernel
theorem dX7_loss_70 : decode cX7_loss 70 = .ok (.aload_n 0, 1) := by decide +kernel
theorem dX7_loss_71 : decode cX7_loss 71 = .ok (.getfield 169, 3) := by decide +kernel
theorem dX7_loss_74 : decode cX7_loss 74 = .ok (.ireturn, 1) := by decide +kernel
theorem dX7_back_0 : decode cX7_back 0 = .ok (.aload_n 0, 1) := by decide +kernel
theorem dX7_back_1 : decode cX7_back 1 = .ok (.getfield 169, 3) := by decide +kernel
theorem dX7_back_4 : decode cX7_back 4 = .ok (.ifCond .ne 6, 3) := by decide +kernel
theorem dX7_back_7 : decode cX7_back 7 = .ok (.bipush (-3), 2) := by decide +kernel
theorem dX7_back_9 : decode cX7_back 9 = .ok (.ireturn, 1) := by decide +kernel
theorem dX7_back_10 : decode cX7_back 10 = .ok (.aload_n 0, 1) := by decide +kernel
theorem dX7_back_11 : decode cX7_back 11 = .ok (.dup, 1) := by decide +kernel
theorem dX7_back_12 : decode cX7_back 12 = .ok (.getfield 169, 3) := by decide +kernel
theorem dX7_back_15 : decode cX7_back 15 = .ok (.iconst 1, 1) := by decide +kernel
theorem dX7_back_16 : decode cX7_back 16 = .ok (.isub, 1) := by decide +kernel
theorem dX7_back_17 : decode cX7_back 17 = .ok (.putfield 169, 3) := by decide +kernel
theorem dX7_back_20 : decode cX7_back 20 = .ok (.aload_n 0, 1) := by decide +kernel
theorem dX7_back_21 : decode cX7_back 21 = .ok (.getfield 169, 3) := by decide +kernel
theorem dX7_back_24 : decode cX7_back 24 = .ok (.ireturn, 1) := by decide +kernel
theorem dX7_read_0 : decode cX7_read 0 = .ok (.iload_n 1, 1) := by decide +kernel
theorem dX7_read_1 : decode cX7_read 1 = .ok (.invokestatic 70, 3) := by decide +kernel
theorem dX7_read_4 : decode cX7_read 4 = .ok (.ifCond .ne 6, 3) := by decide +kernel
theorem dX7_read_7 : decode cX7_read 7 = .ok (.bipush (-2), 2) := by decide +kernel
theorem dX7_read_9 : decode cX7_read 9 = .ok (.ireturn, 1) := by decide +kernel
theorem dX7_read_10 : decode cX7_read 10 = .ok (.aload_n 0, 1) := by decide +kernel
theorem dX7_read_11 : decode cX7_read 11 = .ok (.getfield 7, 3) := by decide +kernel
theorem dX7_read_14 : decode cX7_read 14 = .ok (.iload_n 1, 1) := by decide +kernel
theorem dX7_read_15 : decode cX7_read 15 = .ok (.iaload, 1) := by decide +kernel
theorem dX7_read_16 : decode cX7_read 16 = .ok (.ifCond .ge 9, 3) := by decide +kernel
theorem dX7_read_19 : decode cX7_read 19 = .ok (.aload_n 0, 1) := by decide +kernel
theorem dX7_read_20 : decode cX7_read 20 = .ok (.iconst 1, 1) := by decide +kernel
theorem dX7_read_21 : decode cX7_read 21 = .ok (.invokevirtual 76, 3) := by decide +kernel
theorem dX7_read_24 : decode cX7_read 24 = .ok (.ireturn, 1) := by decide +kernel
theorem dX7_read_25 : decode cX7_read 25 = .ok (.iconst 0, 1) := by decide +kernel
theorem dX7_read_26 : decode cX7_read 26 = .ok (.istore_n 2, 1) := by decide +kernel
theorem dX7_read_27 : decode cX7_read 27 = .ok (.iconst 1, 1) := by decide +kernel
theorem dX7_read_28 : decode cX7_read 28 = .ok (.istore_n 3, 1) := by decide +kernel
theorem dX7_read_29 : decode cX7_read 29 = .ok (.iload_n 3, 1) := by decide +kernel
theorem dX7_read_30 : decode cX7_read 30 = .ok (.ifCond .eq 73, 3) := by decide +kernel
theorem dX7_read_33 : decode cX7_read 33 = .ok (.iconst 2, 1) := by decide +kernel
theorem dX7_read_34 : decode cX7_read 34 = .ok (.iload_n 2, 1) := by decide +kernel
theorem dX7_read_35 : decode cX7_read 35 = .ok (.imul, 1) := by decide +kernel
theorem dX7_read_36 : decode cX7_read 36 = .ok (.iconst 2, 1) := by decide +kernel
theorem dX7_read_37 : decode cX7_read 37 = .ok (.iadd, 1) := by decide +kernel
theorem dX7_read_38 : decode cX7_read 38 = .ok (.aload_n 0, 1) := by decide +kernel
theorem dX7_read_39 : decode cX7_read 39 = .ok (.getfield 13, 3) := by decide +kernel
theorem dX7_read_42 : decode cX7_read 42 = .ok (.iload_n 1, 1) := by decide +kernel
theorem dX7_read_43 : decode cX7_read 43 = .ok (.iaload, 1) := by decide +kernel
theorem dX7_read_44 : decode cX7_read 44 = .ok (.if_icmp .gt 59, 3) := by decide +kernel
theorem dX7_read_47 : decode cX7_read 47 = .ok (.aload_n 0, 1) := by decide +kernel
theorem dX7_read_48 : decode cX7_read 48 = .ok (.aload_n 0, 1) := by decide +kernel
theorem dX7_read_49 : decode cX7_read 49 = .ok (.getfield 16, 3) := by decide +kernel
theorem dX7_read_52 : decode cX7_read 52 = .ok (.bipush 60, 2) := by decide +kernel
theorem dX7_read_54 : decode cX7_read 54 = .ok (.iload_n 1, 1) := by decide +kernel
theorem dX7_read_55 : decode cX7_read 55 = .ok (.imul, 1) := by decide +kernel
theorem dX7_read_56 : decode cX7_read 56 = .ok (.iconst 2, 1) := by decide +kernel
theorem dX7_read_57 : decode cX7_read 57 = .ok (.iload_n 2, 1) := by decide +kernel
theorem dX7_read_58 : decode cX7_read 58 = .ok (.imul, 1) := by decide +kernel
theorem dX7_read_59 : decode cX7_read 59 = .ok (.iadd, 1) := by decide +kernel
theorem dX7_read_60 : decode cX7_read 60 = .ok (.iaload, 1) := by decide +kernel
theorem dX7_read_61 : decode cX7_read 61 = .ok (.aload_n 0, 1) := by decide +kernel
theorem dX7_read_62 : decode cX7_read 62 = .ok (.getfield 16, 3) := by decide +kernel
theorem dX7_read_65 : decode cX7_read 65 = .ok (.bipush 60, 2) := by decide +kernel
theorem dX7_read_67 : decode cX7_read 67 = .ok (.iload_n 1, 1) := by decide +kernel
theorem dX7_read_68 : decode cX7_read 68 = .ok (.imul, 1) := by decide +kernel
theorem dX7_read_69 : decode cX7_read 69 = .ok (.iconst 2, 1) := by decide +kernel
theorem dX7_read_70 : decode cX7_read 70 = .ok (.iload_n 2, 1) := by decide +kernel
theorem dX7_read_71 : decode cX7_read 71 = .ok (.imul, 1) := by decide +kernel
theorem dX7_read_72 : decode cX7_read 72 = .ok (.iadd, 1) := by decide +kernel
theorem dX7_read_73 : decode cX7_read 73 = .ok (.iconst 1, 1) := by decide +kernel
theorem dX7_read_74 : decode cX7_read 74 = .ok (.iadd, 1) := by decide +kernel
theorem dX7_read_75 : decode cX7_read 75 = .ok (.iaload, 1) := by decide +kernel
theorem dX7_read_76 : decode cX7_read 76 = .ok (.invokevirtual 172, 3) := by decide +kernel
theorem dX7_read_79 : decode cX7_read 79 = .ok (.ifCond .lt 7, 3) := by decide +kernel
theorem dX7_read_82 : decode cX7_read 82 = .ok (.iconst 1, 1) := by decide +kernel
theorem dX7_read_83 : decode cX7_read 83 = .ok (.goto 4, 3) := by decide +kernel
theorem dX7_read_86 : decode cX7_read 86 = .ok (.iconst 0, 1) := by decide +kernel
theorem dX7_read_87 : decode cX7_read 87 = .ok (.istore_n 3, 1) := by decide +kernel
theorem dX7_read_88 : decode cX7_read 88 = .ok (.iload_n 2, 1) := by decide +kernel
theorem dX7_read_89 : decode cX7_read 89 = .ok (.iload_n 3, 1) := by decide +kernel
theorem dX7_read_90 : decode cX7_read 90 = .ok (.ifCond .eq 7, 3) := by decide +kernel
theorem dX7_read_93 : decode cX7_read 93 = .ok (.iconst 1, 1) := by decide +kernel
theorem dX7_read_94 : decode cX7_read 94 = .ok (.goto 4, 3) := by decide +kernel
theorem dX7_read_97 : decode cX7_read 97 = .ok (.iconst 0, 1) := by decide +kernel
theorem dX7_read_98 : decode cX7_read 98 = .ok (.iadd, 1) := by decide +kernel
theorem dX7_read_99 : decode cX7_read 99 = .ok (.istore_n 2, 1) := by decide +kernel
theorem dX7_read_100 : decode cX7_read 100 = .ok (.goto (-71), 3) := by decide +kernel
theorem dX7_read_103 : decode cX7_read 103 = .ok (.iload_n 2, 1) := by decide +kernel
theorem dX7_read_104 : decode cX7_read 104 = .ok (.ireturn, 1) := by decide +kernel
theorem dX7_begins_0 : decode cX7_begins 0 = .ok (.iconst 0, 1) := by decide +kernel
theorem dX7_begins_1 : decode cX7_begins 1 = .ok (.istore_n 1, 1) := by decide +kernel
theorem dX7_begins_2 : decode cX7_begins 2 = .ok (.iload_n 1, 1) := by decide +kernel
theorem dX7_begins_3 : decode cX7_begins 3 = .ok (.aload_n 0, 1) := by decide +kernel
theorem dX7_begins_4 : decode cX7_begins 4 = .ok (.getfield 28, 3) := by decide +kernel
theorem dX7_begins_7 : decode cX7_begins 7 = .ok (.iconst 1, 1) := by decide +kernel
theorem dX7_begins_8 : decode cX7_begins 8 = .ok (.iaload, 1) := by decide +kernel
theorem dX7_begins_9 : decode cX7_begins 9 = .ok (.if_icmp .ge 23, 3) := by decide +kernel
theorem dX7_begins_12 : decode cX7_begins 12 = .ok (.aload_n 0, 1) := by decide +kernel
theorem dX7_begins_13 : decode cX7_begins 13 = .ok (.getfield 43, 3) := by decide +kernel
theorem dX7_begins_16 : decode cX7_begins 16 = .ok (.iload_n 1, 1) := by decide +kernel
theorem dX7_begins_17 : decode cX7_begins 17 = .ok (.aload_n 0, 1) := by decide +kernel
theorem dX7_begins_18 : decode cX7_begins 18 = .ok (.getfield 34, 3) := by decide +kernel
theorem dX7_begins_21 : decode cX7_begins 21 = .ok (.iconst 3, 1) := by decide +kernel
theorem dX7_begins_22 : decode cX7_begins 22 = .ok (.iload_n 1, 1) := by decide +kernel
theorem dX7_begins_23 : decode cX7_begins 23 = .ok (.imul, 1) := by decide +kernel
theorem dX7_begins_24 : decode cX7_begins 24 = .ok (.iaload, 1) := by decide +kernel
theorem dX7_begins_25 : decode cX7_begins 25 = .ok (.iastore, 1) := by decide +kernel
theorem dX7_begins_26 : decode cX7_begins 26 = .ok (.iinc 1 1, 3) := by decide +kernel
theorem dX7_begins_29 : decode cX7_begins 29 = .ok (.goto (-27), 3) := by decide +kernel
theorem dX7_begins_32 : decode cX7_begins 32 = .ok (.iconst 0, 1) := by decide +kernel
theorem dX7_begins_33 : decode cX7_begins 33 = .ok (.istore_n 1, 1) := by decide +kernel
theorem dX7_begins_34 : decode cX7_begins 34 = .ok (.iload_n 1, 1) := by decide +kernel
theorem dX7_begins_35 : decode cX7_begins 35 = .ok (.bipush 6, 2) := by decide +kernel
theorem dX7_begins_37 : decode cX7_begins 37 = .ok (.if_icmp .ge 16, 3) := by decide +kernel
theorem dX7_begins_40 : decode cX7_begins 40 = .ok (.aload_n 0, 1) := by decide +kernel
theorem dX7_begins_41 : decode cX7_begins 41 = .ok (.getfield 46, 3) := by decide +kernel
theorem dX7_begins_44 : decode cX7_begins 44 = .ok (.iload_n 1, 1) := by decide +kernel
theorem dX7_begins_45 : decode cX7_begins 45 = .ok (.iconst 0, 1) := by decide +kernel
theorem dX7_begins_46 : decode cX7_begins 46 = .ok (.iastore, 1) := by decide +kernel
theorem dX7_begins_47 : decode cX7_begins 47 = .ok (.iinc 1 1, 3) := by decide +kernel
theorem dX7_begins_50 : decode cX7_begins 50 = .ok (.goto (-16), 3) := by decide +kernel
theorem dX7_begins_53 : decode cX7_begins 53 = .ok (.aload_n 0, 1) := by decide +kernel
theorem dX7_begins_54 : decode cX7_begins 54 = .ok (.iconst 0, 1) := by decide +kernel
theorem dX7_begins_55 : decode cX7_begins 55 = .ok (.putfield 174, 3) := by decide +kernel
theorem dX7_begins_58 : decode cX7_begins 58 = .ok (.aload_n 0, 1) := by decide +kernel
theorem dX7_begins_59 : decode cX7_begins 59 = .ok (.iconst 0, 1) := by decide +kernel
theorem dX7_begins_60 : decode cX7_begins 60 = .ok (.putfield 177, 3) := by decide +kernel
theorem dX7_begins_63 : decode cX7_begins 63 = .ok (.aload_n 0, 1) := by decide +kernel
theorem dX7_begins_64 : decode cX7_begins 64 = .ok (.iconst (-1), 1) := by decide +kernel
theorem dX7_begins_65 : decode cX7_begins 65 = .ok (.putfield 180, 3) := by decide +kernel
theorem dX7_begins_68 : decode cX7_begins 68 = .ok (.aload_n 0, 1) := by decide +kernel
theorem dX7_begins_69 : decode cX7_begins 69 = .ok (.iconst (-1), 1) := by decide +kernel
theorem dX7_begins_70 : decode cX7_begins 70 = .ok (.putfield 183, 3) := by decide +kernel
theorem dX7_begins_73 : decode cX7_begins 73 = .ok (.return_, 1) := by decide +kernel
theorem dX7_goes_0 : decode cX7_goes 0 = .ok (.aload_n 0, 1) := by decide +kernel
theorem dX7_goes_1 : decode cX7_goes 1 = .ok (.iload_n 2, 1) := by decide +kernel
theorem dX7_goes_2 : decode cX7_goes 2 = .ok (.invokevirtual 127, 3) := by decide +kernel
theorem dX7_goes_5 : decode cX7_goes 5 = .ok (.ifCond .eq 14, 3) := by decide +kernel
theorem dX7_goes_8 : decode cX7_goes 8 = .ok (.aload_n 0, 1) := by decide +kernel
theorem dX7_goes_9 : decode cX7_goes 9 = .ok (.getfield 177, 3) := by decide +kernel
theorem dX7_goes_12 : decode cX7_goes 12 = .ok (.iload_n 2, 1) := by decide +kernel
theorem dX7_goes_13 : decode cX7_goes 13 = .ok (.invokestatic 139, 3) := by decide +kernel
theorem dX7_goes_16 : decode cX7_goes 16 = .ok (.ifCond .eq 4, 3) := by decide +kernel
theorem dX7_goes_19 : decode cX7_goes 19 = .ok (.return_, 1) := by decide +kernel
theorem dX7_goes_20 : decode cX7_goes 20 = .ok (.aload_n 0, 1) := by decide +kernel
theorem dX7_goes_21 : decode cX7_goes 21 = .ok (.dup, 1) := by decide +kernel
theorem dX7_goes_22 : decode cX7_goes 22 = .ok (.getfield 177, 3) := by decide +kernel
theorem dX7_goes_25 : decode cX7_goes 25 = .ok (.iconst 1, 1) := by decide +kernel
theorem dX7_goes_26 : decode cX7_goes 26 = .ok (.iload_n 2, 1) := by decide +kernel
theorem dX7_goes_27 : decode cX7_goes 27 = .ok (.ishl, 1) := by decide +kernel
theorem dX7_goes_28 : decode cX7_goes 28 = .ok (.ior, 1) := by decide +kernel
theorem dX7_goes_29 : decode cX7_goes 29 = .ok (.putfield 177, 3) := by decide +kernel
theorem dX7_goes_32 : decode cX7_goes 32 = .ok (.iconst 0, 1) := by decide +kernel
theorem dX7_goes_33 : decode cX7_goes 33 = .ok (.istore_n 3, 1) := by decide +kernel
theorem dX7_goes_34 : decode cX7_goes 34 = .ok (.iload_n 3, 1) := by decide +kernel
theorem dX7_goes_35 : decode cX7_goes 35 = .ok (.aload_n 0, 1) := by decide +kernel
theorem dX7_goes_36 : decode cX7_goes 36 = .ok (.getfield 28, 3) := by decide +kernel
theorem dX7_goes_39 : decode cX7_goes 39 = .ok (.iconst 2, 1) := by decide +kernel
theorem dX7_goes_40 : decode cX7_goes 40 = .ok (.iaload, 1) := by decide +kernel
theorem dX7_goes_41 : decode cX7_goes 41 = .ok (.if_icmp .ge 184, 3) := by decide +kernel
theorem dX7_goes_44 : decode cX7_goes 44 = .ok (.aload_n 0, 1) := by decide +kernel
theorem dX7_goes_45 : decode cX7_goes 45 = .ok (.getfield 37, 3) := by decide +kernel
theorem dX7_goes_48 : decode cX7_goes 48 = .ok (.iconst 3, 1) := by decide +kernel
theorem dX7_goes_49 : decode cX7_goes 49 = .ok (.iload_n 3, 1) := by decide +kernel
theorem dX7_goes_50 : decode cX7_goes 50 = .ok (.imul, 1) := by decide +kernel
theorem dX7_goes_51 : decode cX7_goes 51 = .ok (.iaload, 1) := by decide +kernel
theorem dX7_goes_52 : decode cX7_goes 52 = .ok (.iload_n 2, 1) := by decide +kernel
theorem dX7_goes_53 : decode cX7_goes 53 = .ok (.if_icmp .ne 28, 3) := by decide +kernel
theorem dX7_goes_56 : decode cX7_goes 56 = .ok (.aload_n 0, 1) := by decide +kernel
theorem dX7_goes_57 : decode cX7_goes 57 = .ok (.iload_n 3, 1) := by decide +kernel
theorem dX7_goes_58 : decode cX7_goes 58 = .ok (.invokevirtual 143, 3) := by decide +kernel
theorem dX7_goes_61 : decode cX7_goes 61 = .ok (.ifCond .eq 20, 3) := by decide +kernel
theorem dX7_goes_64 : decode cX7_goes 64 = .ok (.aload_n 0, 1) := by decide +kernel
theorem dX7_goes_65 : decode cX7_goes 65 = .ok (.aload_n 0, 1) := by decide +kernel
theorem dX7_goes_66 : decode cX7_goes 66 = .ok (.getfield 37, 3) := by decide +kernel
theorem dX7_goes_69 : decode cX7_goes 69 = .ok (.iconst 3, 1) := by decide +kernel
theorem dX7_goes_70 : decode cX7_goes 70 = .ok (.iload_n 3, 1) := by decide +kernel
theorem dX7_goes_71 : decode cX7_goes 71 = .ok (.imul, 1) := by decide +kernel
theorem dX7_goes_72 : decode cX7_goes 72 = .ok (.iconst 1, 1) := by decide +kernel
theorem dX7_goes_73 : decode cX7_goes 73 = .ok (.iadd, 1) := by decide +kernel
theorem dX7_goes_74 : decode cX7_goes 74 = .ok (.iaload, 1) := by decide +kernel
theorem dX7_goes_75 : decode cX7_goes 75 = .ok (.invokevirtual 152, 3) := by decide +kernel
theorem dX7_goes_78 : decode cX7_goes 78 = .ok (.goto 4, 3) := by decide +kernel
theorem dX7_goes_81 : decode cX7_goes 81 = .ok (.iconst (-1), 1) := by decide +kernel
theorem dX7_goes_82 : decode cX7_goes 82 = .ok (.istore 4, 2) := by decide +kernel
theorem dX7_goes_84 : decode cX7_goes 84 = .ok (.iload 4, 2) := by decide +kernel
theorem dX7_goes_86 : decode cX7_goes 86 = .ok (.iconst (-1), 1) := by decide +kernel
theorem dX7_goes_87 : decode cX7_goes 87 = .ok (.if_icmp .eq 132, 3) := by decide +kernel
theorem dX7_goes_90 : decode cX7_goes 90 = .ok (.aload_n 0, 1) := by decide +kernel
theorem dX7_goes_91 : decode cX7_goes 91 = .ok (.getfield 55, 3) := by decide +kernel
theorem dX7_goes_94 : decode cX7_goes 94 = .ok (.iload 4, 2) := by decide +kernel
theorem dX7_goes_96 : decode cX7_goes 96 = .ok (.invokestatic 139, 3) := by decide +kernel
theorem dX7_goes_99 : decode cX7_goes 99 = .ok (.ifCond .eq 120, 3) := by decide +kernel
theorem dX7_goes_102 : decode cX7_goes 102 = .ok (.aload_n 0, 1) := by decide +kernel
theorem dX7_goes_103 : decode cX7_goes 103 = .ok (.iload_n 3, 1) := by decide +kernel
theorem dX7_goes_104 : decode cX7_goes 104 = .ok (.invokevirtual 146, 3) := by decide +kernel
theorem dX7_goes_107 : decode cX7_goes 107 = .ok (.istore 5, 2) := by decide +kernel
theorem dX7_goes_109 : decode cX7_goes 109 = .ok (.iload 5, 2) := by decide +kernel
theorem dX7_goes_111 : decode cX7_goes 111 = .ok (.aload_n 0, 1) := by decide +kernel
theorem dX7_goes_112 : decode cX7_goes 112 = .ok (.getfield 43, 3) := by decide +kernel
theorem dX7_goes_115 : decode cX7_goes 115 = .ok (.iload 4, 2) := by decide +kernel
theorem dX7_goes_117 : decode cX7_goes 117 = .ok (.iaload, 1) := by decide +kernel
theorem dX7_goes_118 : decode cX7_goes 118 = .ok (.invokestatic 186, 3) := by decide +kernel
theorem dX7_goes_121 : decode cX7_goes 121 = .ok (.istore 6, 2) := by decide +kernel
theorem dX7_goes_123 : decode cX7_goes 123 = .ok (.aload_n 0, 1) := by decide +kernel
theorem dX7_goes_124 : decode cX7_goes 124 = .ok (.getfield 43, 3) := by decide +kernel
theorem dX7_goes_127 : decode cX7_goes 127 = .ok (.iload 4, 2) := by decide +kernel
theorem dX7_goes_129 : decode cX7_goes 129 = .ok (.dup2, 1) := by decide +kernel
theorem dX7_goes_130 : decode cX7_goes 130 = .ok (.iaload, 1) := by decide +kernel
theorem dX7_goes_131 : decode cX7_goes 131 = .ok (.iload 6, 2) := by decide +kernel
theorem dX7_goes_133 : decode cX7_goes 133 = .ok (.isub, 1) := by decide +kernel
theorem dX7_goes_134 : decode cX7_goes 134 = .ok (.iastore, 1) := by decide +kernel
theorem dX7_goes_135 : decode cX7_goes 135 = .ok (.aload_n 0, 1) := by decide +kernel
theorem dX7_goes_136 : decode cX7_goes 136 = .ok (.getfield 46, 3) := by decide +kernel
theorem dX7_goes_139 : decode cX7_goes 139 = .ok (.iload_n 2, 1) := by decide +kernel
theorem dX7_goes_140 : decode cX7_goes 140 = .ok (.dup2, 1) := by decide +kernel
theorem dX7_goes_141 : decode cX7_goes 141 = .ok (.iaload, 1) := by decide +kernel
theorem dX7_goes_142 : decode cX7_goes 142 = .ok (.iload 6, 2) := by decide +kernel
theorem dX7_goes_144 : decode cX7_goes 144 = .ok (.iadd, 1) := by decide +kernel
theorem dX7_goes_145 : decode cX7_goes 145 = .ok (.iastore, 1) := by decide +kernel
theorem dX7_goes_146 : decode cX7_goes 146 = .ok (.iload 6, 2) := by decide +kernel
theorem dX7_goes_148 : decode cX7_goes 148 = .ok (.iload 5, 2) := by decide +kernel
theorem dX7_goes_150 : decode cX7_goes 150 = .ok (.if_icmp .ge 21, 3) := by decide +kernel
theorem dX7_goes_153 : decode cX7_goes 153 = .ok (.aload_n 0, 1) := by decide +kernel
theorem dX7_goes_154 : decode cX7_goes 154 = .ok (.getfield 34, 3) := by decide +kernel
theorem dX7_goes_157 : decode cX7_goes 157 = .ok (.iconst 3, 1) := by decide +kernel
theorem dX7_goes_158 : decode cX7_goes 158 = .ok (.iload 4, 2) := by decide +kernel
theorem dX7_goes_160 : decode cX7_goes 160 = .ok (.imul, 1) := by decide +kernel
theorem dX7_goes_161 : decode cX7_goes 161 = .ok (.iconst 1, 1) := by decide +kernel
theorem dX7_goes_162 : decode cX7_goes 162 = .ok (.iadd, 1) := by decide +kernel
theorem dX7_goes_163 : decode cX7_goes 163 = .ok (.iaload, 1) := by decide +kernel
theorem dX7_goes_164 : decode cX7_goes 164 = .ok (.ifCond .ne 7, 3) := by decide +kernel
theorem dX7_goes_167 : decode cX7_goes 167 = .ok (.iconst 1, 1) := by decide +kernel
theorem dX7_goes_168 : decode cX7_goes 168 = .ok (.goto 4, 3) := by decide +kernel
theorem dX7_goes_171 : decode cX7_goes 171 = .ok (.iconst 0, 1) := by decide +kernel
theorem dX7_goes_172 : decode cX7_goes 172 = .ok (.istore 7, 2) := by decide +kernel
theorem dX7_goes_174 : decode cX7_goes 174 = .ok (.iload 7, 2) := by decide +kernel
theorem dX7_goes_176 : decode cX7_goes 176 = .ok (.ifCond .eq 21, 3) := by decide +kernel
theorem dX7_goes_179 : decode cX7_goes 179 = .ok (.aload_n 0, 1) := by decide +kernel
theorem dX7_goes_180 : decode cX7_goes 180 = .ok (.getfield 174, 3) := by decide +kernel
theorem dX7_goes_183 : decode cX7_goes 183 = .ok (.ifCond .ne 14, 3) := by decide +kernel
theorem dX7_goes_186 : decode cX7_goes 186 = .ok (.aload_n 0, 1) := by decide +kernel
theorem dX7_goes_187 : decode cX7_goes 187 = .ok (.iload_n 1, 1) := by decide +kernel
theorem dX7_goes_188 : decode cX7_goes 188 = .ok (.putfield 180, 3) := by decide +kernel
theorem dX7_goes_191 : decode cX7_goes 191 = .ok (.aload_n 0, 1) := by decide +kernel
theorem dX7_goes_192 : decode cX7_goes 192 = .ok (.iload 4, 2) := by decide +kernel
theorem dX7_goes_194 : decode cX7_goes 194 = .ok (.putfield 183, 3) := by decide +kernel
theorem dX7_goes_197 : decode cX7_goes 197 = .ok (.aload_n 0, 1) := by decide +kernel
theorem dX7_goes_198 : decode cX7_goes 198 = .ok (.dup, 1) := by decide +kernel
theorem dX7_goes_199 : decode cX7_goes 199 = .ok (.getfield 174, 3) := by decide +kernel
theorem dX7_goes_202 : decode cX7_goes 202 = .ok (.iload 7, 2) := by decide +kernel
theorem dX7_goes_204 : decode cX7_goes 204 = .ok (.ifCond .eq 10, 3) := by decide +kernel
theorem dX7_goes_207 : decode cX7_goes 207 = .ok (.iconst 1, 1) := by decide +kernel
theorem dX7_goes_208 : decode cX7_goes 208 = .ok (.iload 4, 2) := by decide +kernel
theorem dX7_goes_210 : decode cX7_goes 210 = .ok (.ishl, 1) := by decide +kernel
theorem dX7_goes_211 : decode cX7_goes 211 = .ok (.goto 4, 3) := by decide +kernel
theorem dX7_goes_214 : decode cX7_goes 214 = .ok (.iconst 0, 1) := by decide +kernel
theorem dX7_goes_215 : decode cX7_goes 215 = .ok (.ior, 1) := by decide +kernel
theorem dX7_goes_216 : decode cX7_goes 216 = .ok (.putfield 174, 3) := by decide +kernel
theorem dX7_goes_219 : decode cX7_goes 219 = .ok (.iinc 3 1, 3) := by decide +kernel
theorem dX7_goes_222 : decode cX7_goes 222 = .ok (.goto (-188), 3) := by decide +kernel
theorem dX7_goes_225 : decode cX7_goes 225 = .ok (.return_, 1) := by decide +kernel
theorem dX7_lives_0 : decode cX7_lives 0 = .ok (.aload_n 0, 1) := by decide +kernel
theorem dX7_lives_1 : decode cX7_lives 1 = .ok (.invokevirtual 189, 3) := by decide +kernel
theorem dX7_lives_4 : decode cX7_lives 4 = .ok (.iconst 0, 1) := by decide +kernel
theorem dX7_lives_5 : decode cX7_lives 5 = .ok (.istore_n 2, 1) := by decide +kernel
theorem dX7_lives_6 : decode cX7_lives 6 = .ok (.iload_n 2, 1) := by decide +kernel
theorem dX7_lives_7 : decode cX7_lives 7 = .ok (.iload_n 1, 1) := by decide +kernel
theorem dX7_lives_8 : decode cX7_lives 8 = .ok (.if_icmp .gt 52, 3) := by decide +kernel
theorem dX7_lives_11 : decode cX7_lives 11 = .ok (.iconst 0, 1) := by decide +kernel
theorem dX7_lives_12 : decode cX7_lives 12 = .ok (.istore_n 3, 1) := by decide +kernel
theorem dX7_lives_13 : decode cX7_lives 13 = .ok (.iload_n 3, 1) := by decide +kernel
theorem dX7_lives_14 : decode cX7_lives 14 = .ok (.aload_n 0, 1) := by decide +kernel
theorem dX7_lives_15 : decode cX7_lives 15 = .ok (.getfield 169, 3) := by decide +kernel
theorem dX7_lives_18 : decode cX7_lives 18 = .ok (.if_icmp .ge 36, 3) := by decide +kernel
theorem dX7_lives_21 : decode cX7_lives 21 = .ok (.aload_n 0, 1) := by decide +kernel
theorem dX7_lives_22 : decode cX7_lives 22 = .ok (.getfield 40, 3) := by decide +kernel
theorem dX7_lives_25 : decode cX7_lives 25 = .ok (.iconst 2, 1) := by decide +kernel
theorem dX7_lives_26 : decode cX7_lives 26 = .ok (.iload_n 3, 1) := by decide +kernel
theorem dX7_lives_27 : decode cX7_lives 27 = .ok (.imul, 1) := by decide +kernel
theorem dX7_lives_28 : decode cX7_lives 28 = .ok (.iaload, 1) := by decide +kernel
theorem dX7_lives_29 : decode cX7_lives 29 = .ok (.iload_n 2, 1) := by decide +kernel
theorem dX7_lives_30 : decode cX7_lives 30 = .ok (.if_icmp .ne 18, 3) := by decide +kernel
theorem dX7_lives_33 : decode cX7_lives 33 = .ok (.aload_n 0, 1) := by decide +kernel
theorem dX7_lives_34 : decode cX7_lives 34 = .ok (.iload_n 2, 1) := by decide +kernel
theorem dX7_lives_35 : decode cX7_lives 35 = .ok (.aload_n 0, 1) := by decide +kernel
theorem dX7_lives_36 : decode cX7_lives 36 = .ok (.getfield 40, 3) := by decide +kernel
theorem dX7_lives_39 : decode cX7_lives 39 = .ok (.iconst 2, 1) := by decide +kernel
theorem dX7_lives_40 : decode cX7_lives 40 = .ok (.iload_n 3, 1) := by decide +kernel
theorem dX7_lives_41 : decode cX7_lives 41 = .ok (.imul, 1) := by decide +kernel
theorem dX7_lives_42 : decode cX7_lives 42 = .ok (.iconst 1, 1) := by decide +kernel
theorem dX7_lives_43 : decode cX7_lives 43 = .ok (.iadd, 1) := by decide +kernel
theorem dX7_lives_44 : decode cX7_lives 44 = .ok (.iaload, 1) := by decide +kernel
theorem dX7_lives_45 : decode cX7_lives 45 = .ok (.invokevirtual 192, 3) := by decide +kernel
theorem dX7_lives_48 : decode cX7_lives 48 = .ok (.iinc 3 1, 3) := by decide +kernel
theorem dX7_lives_51 : decode cX7_lives 51 = .ok (.goto (-38), 3) := by decide +kernel
theorem dX7_lives_54 : decode cX7_lives 54 = .ok (.iinc 2 1, 3) := by decide +kernel
theorem dX7_lives_57 : decode cX7_lives 57 = .ok (.goto (-51), 3) := by decide +kernel
theorem dX7_lives_60 : decode cX7_lives 60 = .ok (.return_, 1) := by decide +kernel
theorem dX7_leftOf_0 : decode cX7_leftOf 0 = .ok (.aload_n 0, 1) := by decide +kernel
theorem dX7_leftOf_1 : decode cX7_leftOf 1 = .ok (.iload_n 1, 1) := by decide +kernel
theorem dX7_leftOf_2 : decode cX7_leftOf 2 = .ok (.invokevirtual 196, 3) := by decide +kernel
theorem dX7_leftOf_5 : decode cX7_leftOf 5 = .ok (.aload_n 0, 1) := by decide +kernel
theorem dX7_leftOf_6 : decode cX7_leftOf 6 = .ok (.getfield 43, 3) := by decide +kernel
theorem dX7_leftOf_9 : decode cX7_leftOf 9 = .ok (.iload_n 2, 1) := by decide +kernel
theorem dX7_leftOf_10 : decode cX7_leftOf 10 = .ok (.iaload, 1) := by decide +kernel
theorem dX7_leftOf_11 : decode cX7_leftOf 11 = .ok (.ireturn, 1) := by decide +kernel
theorem dX7_left_0 : decode cX7_left 0 = .ok (.aload_n 0, 1) := by decide +kernel
theorem dX7_left_1 : decode cX7_left 1 = .ok (.invokevirtual 124, 3) := by decide +kernel
theorem dX7_left_4 : decode cX7_left 4 = .ok (.iload_n 1, 1) := by decide +kernel
theorem dX7_left_5 : decode cX7_left 5 = .ok (.invokestatic 164, 3) := by decide +kernel
theorem dX7_left_8 : decode cX7_left 8 = .ok (.ifCond .eq 20, 3) := by decide +kernel
theorem dX7_left_11 : decode cX7_left 11 = .ok (.aload_n 0, 1) := by decide +kernel
theorem dX7_left_12 : decode cX7_left 12 = .ok (.iload_n 2, 1) := by decide +kernel
theorem dX7_left_13 : decode cX7_left 13 = .ok (.invokevirtual 133, 3) := by decide +kernel
theorem dX7_left_16 : decode cX7_left 16 = .ok (.ifCond .eq 12, 3) := by decide +kernel
theorem dX7_left_19 : decode cX7_left 19 = .ok (.aload_n 0, 1) := by decide +kernel
theorem dX7_left_20 : decode cX7_left 20 = .ok (.iload_n 1, 1) := by decide +kernel
theorem dX7_left_21 : decode cX7_left 21 = .ok (.iload_n 2, 1) := by decide +kernel
theorem dX7_left_22 : decode cX7_left 22 = .ok (.invokevirtual 200, 3) := by decide +kernel
theorem dX7_left_25 : decode cX7_left 25 = .ok (.goto 5, 3) := by decide +kernel
theorem dX7_left_28 : decode cX7_left 28 = .ok (.bipush (-2), 2) := by decide +kernel
theorem dX7_left_30 : decode cX7_left 30 = .ok (.ireturn, 1) := by decide +kernel
theorem dX7_behindOf_0 : decode cX7_behindOf 0 = .ok (.aload_n 0, 1) := by decide +kernel
theorem dX7_behindOf_1 : decode cX7_behindOf 1 = .ok (.iload_n 1, 1) := by decide +kernel
theorem dX7_behindOf_2 : decode cX7_behindOf 2 = .ok (.invokevirtual 196, 3) := by decide +kernel
theorem dX7_behindOf_5 : decode cX7_behindOf 5 = .ok (.iload_n 2, 1) := by decide +kernel
theorem dX7_behindOf_6 : decode cX7_behindOf 6 = .ok (.ifCond .ne 10, 3) := by decide +kernel
theorem dX7_behindOf_9 : decode cX7_behindOf 9 = .ok (.aload_n 0, 1) := by decide +kernel
theorem dX7_behindOf_10 : decode cX7_behindOf 10 = .ok (.getfield 174, 3) := by decide +kernel
theorem dX7_behindOf_13 : decode cX7_behindOf 13 = .ok (.goto 7, 3) := by decide +kernel
theorem dX7_behindOf_16 : decode cX7_behindOf 16 = .ok (.aload_n 0, 1) := by decide +kernel
theorem dX7_behindOf_17 : decode cX7_behindOf 17 = .ok (.getfield 177, 3) := by decide +kernel
theorem dX7_behindOf_20 : decode cX7_behindOf 20 = .ok (.ireturn, 1) := by decide +kernel
theorem dX7_behind_0 : decode cX7_behind 0 = .ok (.aload_n 0, 1) := by decide +kernel
theorem dX7_behind_1 : decode cX7_behind 1 = .ok (.invokevirtual 124, 3) := by decide +kernel
theorem dX7_behind_4 : decode cX7_behind 4 = .ok (.iload_n 1, 1) := by decide +kernel
theorem dX7_behind_5 : decode cX7_behind 5 = .ok (.invokestatic 164, 3) := by decide +kernel
theorem dX7_behind_8 : decode cX7_behind 8 = .ok (.ifCond .eq 19, 3) := by decide +kernel
theorem dX7_behind_11 : decode cX7_behind 11 = .ok (.iload_n 2, 1) := by decide +kernel
theorem dX7_behind_12 : decode cX7_behind 12 = .ok (.invokestatic 130, 3) := by decide +kernel
theorem dX7_behind_15 : decode cX7_behind 15 = .ok (.ifCond .eq 12, 3) := by decide +kernel
theorem dX7_behind_18 : decode cX7_behind 18 = .ok (.aload_n 0, 1) := by decide +kernel
theorem dX7_behind_19 : decode cX7_behind 19 = .ok (.iload_n 1, 1) := by decide +kernel
theorem dX7_behind_20 : decode cX7_behind 20 = .ok (.iload_n 2, 1) := by decide +kernel
theorem dX7_behind_21 : decode cX7_behind 21 = .ok (.invokevirtual 203, 3) := by decide +kernel
theorem dX7_behind_24 : decode cX7_behind 24 = .ok (.goto 5, 3) := by decide +kernel
theorem dX7_behind_27 : decode cX7_behind 27 = .ok (.bipush (-2), 2) := by decide +kernel
theorem dX7_behind_29 : decode cX7_behind 29 = .ok (.ireturn, 1) := by decide +kernel
theorem dX7_paidOf_0 : decode cX7_paidOf 0 = .ok (.aload_n 0, 1) := by decide +kernel
theorem dX7_paidOf_1 : decode cX7_paidOf 1 = .ok (.iload_n 1, 1) := by decide +kernel
theorem dX7_paidOf_2 : decode cX7_paidOf 2 = .ok (.invokevirtual 196, 3) := by decide +kernel
theorem dX7_paidOf_5 : decode cX7_paidOf 5 = .ok (.aload_n 0, 1) := by decide +kernel
theorem dX7_paidOf_6 : decode cX7_paidOf 6 = .ok (.getfield 46, 3) := by decide +kernel
theorem dX7_paidOf_9 : decode cX7_paidOf 9 = .ok (.iload_n 2, 1) := by decide +kernel
theorem dX7_paidOf_10 : decode cX7_paidOf 10 = .ok (.iaload, 1) := by decide +kernel
theorem dX7_paidOf_11 : decode cX7_paidOf 11 = .ok (.ireturn, 1) := by decide +kernel
theorem dX7_paid_0 : decode cX7_paid 0 = .ok (.aload_n 0, 1) := by decide +kernel
theorem dX7_paid_1 : decode cX7_paid 1 = .ok (.invokevirtual 124, 3) := by decide +kernel
theorem dX7_paid_4 : decode cX7_paid 4 = .ok (.iload_n 1, 1) := by decide +kernel
theorem dX7_paid_5 : decode cX7_paid 5 = .ok (.invokestatic 164, 3) := by decide +kernel
theorem dX7_paid_8 : decode cX7_paid 8 = .ok (.ifCond .eq 20, 3) := by decide +kernel
theorem dX7_paid_11 : decode cX7_paid 11 = .ok (.aload_n 0, 1) := by decide +kernel
theorem dX7_paid_12 : decode cX7_paid 12 = .ok (.iload_n 2, 1) := by decide +kernel
theorem dX7_paid_13 : decode cX7_paid 13 = .ok (.invokevirtual 127, 3) := by decide +kernel
theorem dX7_paid_16 : decode cX7_paid 16 = .ok (.ifCond .eq 12, 3) := by decide +kernel
theorem dX7_paid_19 : decode cX7_paid 19 = .ok (.aload_n 0, 1) := by decide +kernel
theorem dX7_paid_20 : decode cX7_paid 20 = .ok (.iload_n 1, 1) := by decide +kernel
theorem dX7_paid_21 : decode cX7_paid 21 = .ok (.iload_n 2, 1) := by decide +kernel
theorem dX7_paid_22 : decode cX7_paid 22 = .ok (.invokevirtual 206, 3) := by decide +kernel
theorem dX7_paid_25 : decode cX7_paid 25 = .ok (.goto 5, 3) := by decide +kernel
theorem dX7_paid_28 : decode cX7_paid 28 = .ok (.bipush (-2), 2) := by decide +kernel
theorem dX7_paid_30 : decode cX7_paid 30 = .ok (.ireturn, 1) := by decide +kernel
theorem dX7_firstOf_0 : decode cX7_firstOf 0 = .ok (.aload_n 0, 1) := by decide +kernel
theorem dX7_firstOf_1 : decode cX7_firstOf 1 = .ok (.bipush 29, 2) := by decide +kernel
theorem dX7_firstOf_3 : decode cX7_firstOf 3 = .ok (.invokevirtual 196, 3) := by decide +kernel
theorem dX7_firstOf_6 : decode cX7_firstOf 6 = .ok (.iload_n 1, 1) := by decide +kernel
theorem dX7_firstOf_7 : decode cX7_firstOf 7 = .ok (.ifCond .ne 10, 3) := by decide +kernel
theorem dX7_firstOf_10 : decode cX7_firstOf 10 = .ok (.aload_n 0, 1) := by decide +kernel
theorem dX7_firstOf_11 : decode cX7_firstOf 11 = .ok (.getfield 180, 3) := by decide +kernel
theorem dX7_firstOf_14 : decode cX7_firstOf 14 = .ok (.goto 7, 3) := by decide +kernel
theorem dX7_firstOf_17 : decode cX7_firstOf 17 = .ok (.aload_n 0, 1) := by decide +kernel
theorem dX7_firstOf_18 : decode cX7_firstOf 18 = .ok (.getfield 183, 3) := by decide +kernel
theorem dX7_firstOf_21 : decode cX7_firstOf 21 = .ok (.ireturn, 1) := by decide +kernel
theorem dX7_first_0 : decode cX7_first 0 = .ok (.aload_n 0, 1) := by decide +kernel
theorem dX7_first_1 : decode cX7_first 1 = .ok (.invokevirtual 124, 3) := by decide +kernel
theorem dX7_first_4 : decode cX7_first 4 = .ok (.iload_n 1, 1) := by decide +kernel
theorem dX7_first_5 : decode cX7_first 5 = .ok (.invokestatic 130, 3) := by decide +kernel
theorem dX7_first_8 : decode cX7_first 8 = .ok (.ifCond .eq 11, 3) := by decide +kernel
theorem dX7_first_11 : decode cX7_first 11 = .ok (.aload_n 0, 1) := by decide +kernel
theorem dX7_first_12 : decode cX7_first 12 = .ok (.iload_n 1, 1) := by decide +kernel
theorem dX7_first_13 : decode cX7_first 13 = .ok (.invokevirtual 209, 3) := by decide +kernel
theorem dX7_first_16 : decode cX7_first 16 = .ok (.goto 5, 3) := by decide +kernel
theorem dX7_first_19 : decode cX7_first 19 = .ok (.bipush (-2), 2) := by decide +kernel
theorem dX7_first_21 : decode cX7_first 21 = .ok (.ireturn, 1) := by decide +kernel
theorem dX7_alone_0 : decode cX7_alone 0 = .ok (.aload_n 0, 1) := by decide +kernel
theorem dX7_alone_1 : decode cX7_alone 1 = .ok (.invokevirtual 189, 3) := by decide +kernel
theorem dX7_alone_4 : decode cX7_alone 4 = .ok (.aload_n 0, 1) := by decide +kernel
theorem dX7_alone_5 : decode cX7_alone 5 = .ok (.iconst 0, 1) := by decide +kernel
theorem dX7_alone_6 : decode cX7_alone 6 = .ok (.iload_n 1, 1) := by decide +kernel
theorem dX7_alone_7 : decode cX7_alone 7 = .ok (.invokevirtual 192, 3) := by decide +kernel
theorem dX7_alone_10 : decode cX7_alone 10 = .ok (.return_, 1) := by decide +kernel
theorem dX7_safeNow_0 : decode cX7_safeNow 0 = .ok (.iconst 0, 1) := by decide +kernel
theorem dX7_safeNow_1 : decode cX7_safeNow 1 = .ok (.istore_n 1, 1) := by decide +kernel
theorem dX7_safeNow_2 : decode cX7_safeNow 2 = .ok (.iconst 0, 1) := by decide +kernel
theorem dX7_safeNow_3 : decode cX7_safeNow 3 = .ok (.istore_n 2, 1) := by decide +kernel
theorem dX7_safeNow_4 : decode cX7_safeNow 4 = .ok (.iload_n 2, 1) := by decide +kernel
theorem dX7_safeNow_5 : decode cX7_safeNow 5 = .ok (.aload_n 0, 1) := by decide +kernel
theorem dX7_safeNow_6 : decode cX7_safeNow 6 = .ok (.getfield 28, 3) := by decide +kernel
theorem dX7_safeNow_9 : decode cX7_safeNow 9 = .ok (.iconst 0, 1) := by decide +kernel
theorem dX7_safeNow_10 : decode cX7_safeNow 10 = .ok (.iaload, 1) := by decide +kernel
theorem dX7_safeNow_11 : decode cX7_safeNow 11 = .ok (.if_icmp .ge 31, 3) := by decide +kernel
theorem dX7_safeNow_14 : decode cX7_safeNow 14 = .ok (.aload_n 0, 1) := by decide +kernel
theorem dX7_safeNow_15 : decode cX7_safeNow 15 = .ok (.iload_n 2, 1) := by decide +kernel
theorem dX7_safeNow_16 : decode cX7_safeNow 16 = .ok (.invokevirtual 212, 3) := by decide +kernel
theorem dX7_safeNow_19 : decode cX7_safeNow 19 = .ok (.iload_n 1, 1) := by decide +kernel
theorem dX7_safeNow_20 : decode cX7_safeNow 20 = .ok (.aload_n 0, 1) := by decide +kernel
theorem dX7_safeNow_21 : decode cX7_safeNow 21 = .ok (.getfield 174, 3) := by decide +kernel
theorem dX7_safeNow_24 : decode cX7_safeNow 24 = .ok (.ifCond .ne 9, 3) := by decide +kernel
theorem dX7_safeNow_27 : decode cX7_safeNow 27 = .ok (.iconst 1, 1) := by decide +kernel
theorem dX7_safeNow_28 : decode cX7_safeNow 28 = .ok (.iload_n 2, 1) := by decide +kernel
theorem dX7_safeNow_29 : decode cX7_safeNow 29 = .ok (.ishl, 1) := by decide +kernel
theorem dX7_safeNow_30 : decode cX7_safeNow 30 = .ok (.goto 4, 3) := by decide +kernel
theorem dX7_safeNow_33 : decode cX7_safeNow 33 = .ok (.iconst 0, 1) := by decide +kernel
theorem dX7_safeNow_34 : decode cX7_safeNow 34 = .ok (.ior, 1) := by decide +kernel
theorem dX7_safeNow_35 : decode cX7_safeNow 35 = .ok (.istore_n 1, 1) := by decide +kernel
theorem dX7_safeNow_36 : decode cX7_safeNow 36 = .ok (.iinc 2 1, 3) := by decide +kernel
theorem dX7_safeNow_39 : decode cX7_safeNow 39 = .ok (.goto (-35), 3) := by decide +kernel
theorem dX7_safeNow_42 : decode cX7_safeNow 42 = .ok (.iload_n 1, 1) := by decide +kernel
theorem dX7_safeNow_43 : decode cX7_safeNow 43 = .ok (.ireturn, 1) := by decide +kernel
theorem dX7_safe_0 : decode cX7_safe 0 = .ok (.aload_n 0, 1) := by decide +kernel
theorem dX7_safe_1 : decode cX7_safe 1 = .ok (.invokevirtual 124, 3) := by decide +kernel
theorem dX7_safe_4 : decode cX7_safe 4 = .ok (.aload_n 0, 1) := by decide +kernel
theorem dX7_safe_5 : decode cX7_safe 5 = .ok (.invokevirtual 215, 3) := by decide +kernel
theorem dX7_safe_8 : decode cX7_safe 8 = .ok (.ireturn, 1) := by decide +kernel
theorem dX7_haveAll_0 : decode cX7_haveAll 0 = .ok (.iconst 0, 1) := by decide +kernel
theorem dX7_haveAll_1 : decode cX7_haveAll 1 = .ok (.istore_n 2, 1) := by decide +kernel
theorem dX7_haveAll_2 : decode cX7_haveAll 2 = .ok (.iconst 0, 1) := by decide +kernel
theorem dX7_haveAll_3 : decode cX7_haveAll 3 = .ok (.istore_n 3, 1) := by decide +kernel
theorem dX7_haveAll_4 : decode cX7_haveAll 4 = .ok (.iload_n 3, 1) := by decide +kernel
theorem dX7_haveAll_5 : decode cX7_haveAll 5 = .ok (.aload_n 0, 1) := by decide +kernel
theorem dX7_haveAll_6 : decode cX7_haveAll 6 = .ok (.getfield 28, 3) := by decide +kernel
theorem dX7_haveAll_9 : decode cX7_haveAll 9 = .ok (.iconst 1, 1) := by decide +kernel
theorem dX7_haveAll_10 : decode cX7_haveAll 10 = .ok (.iaload, 1) := by decide +kernel
theorem dX7_haveAll_11 : decode cX7_haveAll 11 = .ok (.if_icmp .ge 32, 3) := by decide +kernel
theorem dX7_haveAll_14 : decode cX7_haveAll 14 = .ok (.iload_n 2, 1) := by decide +kernel
theorem dX7_haveAll_15 : decode cX7_haveAll 15 = .ok (.iload_n 1, 1) := by decide +kernel
theorem dX7_haveAll_16 : decode cX7_haveAll 16 = .ok (.iload_n 3, 1) := by decide +kernel
theorem dX7_haveAll_17 : decode cX7_haveAll 17 = .ok (.invokestatic 139, 3) := by decide +kernel
theorem dX7_haveAll_20 : decode cX7_haveAll 20 = .ok (.ifCond .eq 14, 3) := by decide +kernel
theorem dX7_haveAll_23 : decode cX7_haveAll 23 = .ok (.aload_n 0, 1) := by decide +kernel
theorem dX7_haveAll_24 : decode cX7_haveAll 24 = .ok (.getfield 34, 3) := by decide +kernel
theorem dX7_haveAll_27 : decode cX7_haveAll 27 = .ok (.iconst 3, 1) := by decide +kernel
theorem dX7_haveAll_28 : decode cX7_haveAll 28 = .ok (.iload_n 3, 1) := by decide +kernel
theorem dX7_haveAll_29 : decode cX7_haveAll 29 = .ok (.imul, 1) := by decide +kernel
theorem dX7_haveAll_30 : decode cX7_haveAll 30 = .ok (.iaload, 1) := by decide +kernel
theorem dX7_haveAll_31 : decode cX7_haveAll 31 = .ok (.goto 4, 3) := by decide +kernel
theorem dX7_haveAll_34 : decode cX7_haveAll 34 = .ok (.iconst 0, 1) := by decide +kernel
theorem dX7_haveAll_35 : decode cX7_haveAll 35 = .ok (.iadd, 1) := by decide +kernel
theorem dX7_haveAll_36 : decode cX7_haveAll 36 = .ok (.istore_n 2, 1) := by decide +kernel
theorem dX7_haveAll_37 : decode cX7_haveAll 37 = .ok (.iinc 3 1, 3) := by decide +kernel
theorem dX7_haveAll_40 : decode cX7_haveAll 40 = .ok (.goto (-36), 3) := by decide +kernel
theorem dX7_haveAll_43 : decode cX7_haveAll 43 = .ok (.iload_n 2, 1) := by decide +kernel
theorem dX7_haveAll_44 : decode cX7_haveAll 44 = .ok (.ireturn, 1) := by decide +kernel
theorem dX7_takeOf_0 : decode cX7_takeOf 0 = .ok (.iconst (-1), 1) := by decide +kernel
theorem dX7_takeOf_1 : decode cX7_takeOf 1 = .ok (.istore_n 2, 1) := by decide +kernel
theorem dX7_takeOf_2 : decode cX7_takeOf 2 = .ok (.iconst 0, 1) := by decide +kernel
theorem dX7_takeOf_3 : decode cX7_takeOf 3 = .ok (.istore_n 3, 1) := by decide +kernel
theorem dX7_takeOf_4 : decode cX7_takeOf 4 = .ok (.iload_n 3, 1) := by decide +kernel
theorem dX7_takeOf_5 : decode cX7_takeOf 5 = .ok (.iconst 1, 1) := by decide +kernel
theorem dX7_takeOf_6 : decode cX7_takeOf 6 = .ok (.aload_n 0, 1) := by decide +kernel
theorem dX7_takeOf_7 : decode cX7_takeOf 7 = .ok (.getfield 28, 3) := by decide +kernel
theorem dX7_takeOf_10 : decode cX7_takeOf 10 = .ok (.iconst 1, 1) := by decide +kernel
theorem dX7_takeOf_11 : decode cX7_takeOf 11 = .ok (.iaload, 1) := by decide +kernel
theorem dX7_takeOf_12 : decode cX7_takeOf 12 = .ok (.ishl, 1) := by decide +kernel
theorem dX7_takeOf_13 : decode cX7_takeOf 13 = .ok (.if_icmp .ge 93, 3) := by decide +kernel
theorem dX7_takeOf_16 : decode cX7_takeOf 16 = .ok (.aload_n 0, 1) := by decide +kernel
theorem dX7_takeOf_17 : decode cX7_takeOf 17 = .ok (.iload_n 3, 1) := by decide +kernel
theorem dX7_takeOf_18 : decode cX7_takeOf 18 = .ok (.invokevirtual 219, 3) := by decide +kernel
theorem dX7_takeOf_21 : decode cX7_takeOf 21 = .ok (.istore 4, 2) := by decide +kernel
theorem dX7_takeOf_23 : decode cX7_takeOf 23 = .ok (.iload_n 3, 1) := by decide +kernel
theorem dX7_takeOf_24 : decode cX7_takeOf 24 = .ok (.aload_n 0, 1) := by decide +kernel
theorem dX7_takeOf_25 : decode cX7_takeOf 25 = .ok (.getfield 136, 3) := by decide +kernel
theorem dX7_takeOf_28 : decode cX7_takeOf 28 = .ok (.iand, 1) := by decide +kernel
theorem dX7_takeOf_29 : decode cX7_takeOf 29 = .ok (.ifCond .ne 71, 3) := by decide +kernel
theorem dX7_takeOf_32 : decode cX7_takeOf 32 = .ok (.iload 4, 2) := by decide +kernel
theorem dX7_takeOf_34 : decode cX7_takeOf 34 = .ok (.aload_n 0, 1) := by decide +kernel
theorem dX7_takeOf_35 : decode cX7_takeOf 35 = .ok (.getfield 31, 3) := by decide +kernel
theorem dX7_takeOf_38 : decode cX7_takeOf 38 = .ok (.iconst 2, 1) := by decide +kernel
theorem dX7_takeOf_39 : decode cX7_takeOf 39 = .ok (.iload_n 1, 1) := by decide +kernel
theorem dX7_takeOf_40 : decode cX7_takeOf 40 = .ok (.imul, 1) := by decide +kernel
theorem dX7_takeOf_41 : decode cX7_takeOf 41 = .ok (.iaload, 1) := by decide +kernel
theorem dX7_takeOf_42 : decode cX7_takeOf 42 = .ok (.if_icmp .lt 58, 3) := by decide +kernel
theorem dX7_takeOf_45 : decode cX7_takeOf 45 = .ok (.iload_n 2, 1) := by decide +kernel
theorem dX7_takeOf_46 : decode cX7_takeOf 46 = .ok (.iconst (-1), 1) := by decide +kernel
theorem dX7_takeOf_47 : decode cX7_takeOf 47 = .ok (.if_icmp .eq 35, 3) := by decide +kernel
theorem dX7_takeOf_50 : decode cX7_takeOf 50 = .ok (.iload_n 3, 1) := by decide +kernel
theorem dX7_takeOf_51 : decode cX7_takeOf 51 = .ok (.invokestatic 222, 3) := by decide +kernel
theorem dX7_takeOf_54 : decode cX7_takeOf 54 = .ok (.iload_n 2, 1) := by decide +kernel
theorem dX7_takeOf_55 : decode cX7_takeOf 55 = .ok (.invokestatic 222, 3) := by decide +kernel
theorem dX7_takeOf_58 : decode cX7_takeOf 58 = .ok (.if_icmp .lt 24, 3) := by decide +kernel
theorem dX7_takeOf_61 : decode cX7_takeOf 61 = .ok (.iload_n 3, 1) := by decide +kernel
theorem dX7_takeOf_62 : decode cX7_takeOf 62 = .ok (.invokestatic 222, 3) := by decide +kernel
theorem dX7_takeOf_65 : decode cX7_takeOf 65 = .ok (.iload_n 2, 1) := by decide +kernel
theorem dX7_takeOf_66 : decode cX7_takeOf 66 = .ok (.invokestatic 222, 3) := by decide +kernel
theorem dX7_takeOf_69 : decode cX7_takeOf 69 = .ok (.if_icmp .ne 17, 3) := by decide +kernel
theorem dX7_takeOf_72 : decode cX7_takeOf 72 = .ok (.iload 4, 2) := by decide +kernel
theorem dX7_takeOf_74 : decode cX7_takeOf 74 = .ok (.aload_n 0, 1) := by decide +kernel
theorem dX7_takeOf_75 : decode cX7_takeOf 75 = .ok (.iload_n 2, 1) := by decide +kernel
theorem dX7_takeOf_76 : decode cX7_takeOf 76 = .ok (.invokevirtual 219, 3) := by decide +kernel
theorem dX7_takeOf_79 : decode cX7_takeOf 79 = .ok (.if_icmp .ge 7, 3) := by decide +kernel
theorem dX7_takeOf_82 : decode cX7_takeOf 82 = .ok (.iconst 1, 1) := by decide +kernel
theorem dX7_takeOf_83 : decode cX7_takeOf 83 = .ok (.goto 4, 3) := by decide +kernel
theorem dX7_takeOf_86 : decode cX7_takeOf 86 = .ok (.iconst 0, 1) := by decide +kernel
theorem dX7_takeOf_87 : decode cX7_takeOf 87 = .ok (.istore 5, 2) := by decide +kernel
theorem dX7_takeOf_89 : decode cX7_takeOf 89 = .ok (.iload 5, 2) := by decide +kernel
theorem dX7_takeOf_91 : decode cX7_takeOf 91 = .ok (.ifCond .eq 7, 3) := by decide +kernel
theorem dX7_takeOf_94 : decode cX7_takeOf 94 = .ok (.iload_n 3, 1) := by decide +kernel
theorem dX7_takeOf_95 : decode cX7_takeOf 95 = .ok (.goto 4, 3) := by decide +kernel
theorem dX7_takeOf_98 : decode cX7_takeOf 98 = .ok (.iload_n 2, 1) := by decide +kernel
theorem dX7_takeOf_99 : decode cX7_takeOf 99 = .ok (.istore_n 2, 1) := by decide +kernel
theorem dX7_takeOf_100 : decode cX7_takeOf 100 = .ok (.iinc 3 1, 3) := by decide +kernel
theorem dX7_takeOf_103 : decode cX7_takeOf 103 = .ok (.goto (-99), 3) := by decide +kernel
theorem dX7_takeOf_106 : decode cX7_takeOf 106 = .ok (.iload_n 2, 1) := by decide +kernel
theorem dX7_takeOf_107 : decode cX7_takeOf 107 = .ok (.ireturn, 1) := by decide +kernel
theorem dX7_take_0 : decode cX7_take 0 = .ok (.aload_n 0, 1) := by decide +kernel
theorem dX7_take_1 : decode cX7_take 1 = .ok (.invokevirtual 124, 3) := by decide +kernel
theorem dX7_take_4 : decode cX7_take 4 = .ok (.aload_n 0, 1) := by decide +kernel
theorem dX7_take_5 : decode cX7_take 5 = .ok (.iload_n 1, 1) := by decide +kernel
theorem dX7_take_6 : decode cX7_take 6 = .ok (.invokevirtual 127, 3) := by decide +kernel
theorem dX7_take_9 : decode cX7_take 9 = .ok (.ifCond .eq 11, 3) := by decide +kernel
theorem dX7_take_12 : decode cX7_take 12 = .ok (.aload_n 0, 1) := by decide +kernel
theorem dX7_take_13 : decode cX7_take 13 = .ok (.iload_n 1, 1) := by decide +kernel
theorem dX7_take_14 : decode cX7_take 14 = .ok (.invokevirtual 225, 3) := by decide +kernel
theorem dX7_take_17 : decode cX7_take 17 = .ok (.goto 5, 3) := by decide +kernel
theorem dX7_take_20 : decode cX7_take 20 = .ok (.bipush (-2), 2) := by decide +kernel
theorem dX7_take_22 : decode cX7_take 22 = .ok (.ireturn, 1) := by decide +kernel
theorem dX7_borneAll_0 : decode cX7_borneAll 0 = .ok (.iconst 0, 1) := by decide +kernel
theorem dX7_borneAll_1 : decode cX7_borneAll 1 = .ok (.istore_n 2, 1) := by decide +kernel
theorem dX7_borneAll_2 : decode cX7_borneAll 2 = .ok (.iconst 0, 1) := by decide +kernel
theorem dX7_borneAll_3 : decode cX7_borneAll 3 = .ok (.istore_n 3, 1) := by decide +kernel
theorem dX7_borneAll_4 : decode cX7_borneAll 4 = .ok (.iload_n 3, 1) := by decide +kernel
theorem dX7_borneAll_5 : decode cX7_borneAll 5 = .ok (.aload_n 0, 1) := by decide +kernel
theorem dX7_borneAll_6 : decode cX7_borneAll 6 = .ok (.getfield 28, 3) := by decide +kernel
theorem dX7_borneAll_9 : decode cX7_borneAll 9 = .ok (.iconst 0, 1) := by decide +kernel
theorem dX7_borneAll_10 : decode cX7_borneAll 10 = .ok (.iaload, 1) := by decide +kernel
theorem dX7_borneAll_11 : decode cX7_borneAll 11 = .ok (.if_icmp .ge 18, 3) := by decide +kernel
theorem dX7_borneAll_14 : decode cX7_borneAll 14 = .ok (.iload_n 2, 1) := by decide +kernel
theorem dX7_borneAll_15 : decode cX7_borneAll 15 = .ok (.aload_n 0, 1) := by decide +kernel
theorem dX7_borneAll_16 : decode cX7_borneAll 16 = .ok (.iload_n 3, 1) := by decide +kernel
theorem dX7_borneAll_17 : decode cX7_borneAll 17 = .ok (.iload_n 1, 1) := by decide +kernel
theorem dX7_borneAll_18 : decode cX7_borneAll 18 = .ok (.invokevirtual 161, 3) := by decide +kernel
theorem dX7_borneAll_21 : decode cX7_borneAll 21 = .ok (.iadd, 1) := by decide +kernel
theorem dX7_borneAll_22 : decode cX7_borneAll 22 = .ok (.istore_n 2, 1) := by decide +kernel
theorem dX7_borneAll_23 : decode cX7_borneAll 23 = .ok (.iinc 3 1, 3) := by decide +kernel
theorem dX7_borneAll_26 : decode cX7_borneAll 26 = .ok (.goto (-22), 3) := by decide +kernel
theorem dX7_borneAll_29 : decode cX7_borneAll 29 = .ok (.iload_n 2, 1) := by decide +kernel
theorem dX7_borneAll_30 : decode cX7_borneAll 30 = .ok (.ireturn, 1) := by decide +kernel
theorem dX7_strikeOf_0 : decode cX7_strikeOf 0 = .ok (.aload_n 0, 1) := by decide +kernel
theorem dX7_strikeOf_1 : decode cX7_strikeOf 1 = .ok (.iload_n 1, 1) := by decide +kernel
theorem dX7_strikeOf_2 : decode cX7_strikeOf 2 = .ok (.invokevirtual 228, 3) := by decide +kernel
theorem dX7_strikeOf_5 : decode cX7_strikeOf 5 = .ok (.istore_n 3, 1) := by decide +kernel
theorem dX7_strikeOf_6 : decode cX7_strikeOf 6 = .ok (.aload_n 0, 1) := by decide +kernel
theorem dX7_strikeOf_7 : decode cX7_strikeOf 7 = .ok (.getfield 136, 3) := by decide +kernel
theorem dX7_strikeOf_10 : decode cX7_strikeOf 10 = .ok (.istore 4, 2) := by decide +kernel
theorem dX7_strikeOf_12 : decode cX7_strikeOf 12 = .ok (.aload_n 0, 1) := by decide +kernel
theorem dX7_strikeOf_13 : decode cX7_strikeOf 13 = .ok (.dup, 1) := by decide +kernel
theorem dX7_strikeOf_14 : decode cX7_strikeOf 14 = .ok (.getfield 136, 3) := by decide +kernel
theorem dX7_strikeOf_17 : decode cX7_strikeOf 17 = .ok (.iconst 1, 1) := by decide +kernel
theorem dX7_strikeOf_18 : decode cX7_strikeOf 18 = .ok (.iload_n 2, 1) := by decide +kernel
theorem dX7_strikeOf_19 : decode cX7_strikeOf 19 = .ok (.ishl, 1) := by decide +kernel
theorem dX7_strikeOf_20 : decode cX7_strikeOf 20 = .ok (.ior, 1) := by decide +kernel
theorem dX7_strikeOf_21 : decode cX7_strikeOf 21 = .ok (.putfield 136, 3) := by decide +kernel
theorem dX7_strikeOf_24 : decode cX7_strikeOf 24 = .ok (.aload_n 0, 1) := by decide +kernel
theorem dX7_strikeOf_25 : decode cX7_strikeOf 25 = .ok (.iload_n 1, 1) := by decide +kernel
theorem dX7_strikeOf_26 : decode cX7_strikeOf 26 = .ok (.invokevirtual 228, 3) := by decide +kernel
theorem dX7_strikeOf_29 : decode cX7_strikeOf 29 = .ok (.istore 5, 2) := by decide +kernel
theorem dX7_strikeOf_31 : decode cX7_strikeOf 31 = .ok (.aload_n 0, 1) := by decide +kernel
theorem dX7_strikeOf_32 : decode cX7_strikeOf 32 = .ok (.iload 4, 2) := by decide +kernel
theorem dX7_strikeOf_34 : decode cX7_strikeOf 34 = .ok (.putfield 136, 3) := by decide +kernel
theorem dX7_strikeOf_37 : decode cX7_strikeOf 37 = .ok (.iload 5, 2) := by decide +kernel
theorem dX7_strikeOf_39 : decode cX7_strikeOf 39 = .ok (.iload_n 3, 1) := by decide +kernel
theorem dX7_strikeOf_40 : decode cX7_strikeOf 40 = .ok (.isub, 1) := by decide +kernel
theorem dX7_strikeOf_41 : decode cX7_strikeOf 41 = .ok (.ireturn, 1) := by decide +kernel
theorem dX7_strike_0 : decode cX7_strike 0 = .ok (.aload_n 0, 1) := by decide +kernel
theorem dX7_strike_1 : decode cX7_strike 1 = .ok (.invokevirtual 124, 3) := by decide +kernel
theorem dX7_strike_4 : decode cX7_strike 4 = .ok (.aload_n 0, 1) := by decide +kernel
theorem dX7_strike_5 : decode cX7_strike 5 = .ok (.iload_n 1, 1) := by decide +kernel
theorem dX7_strike_6 : decode cX7_strike 6 = .ok (.invokevirtual 133, 3) := by decide +kernel
theorem dX7_strike_9 : decode cX7_strike 9 = .ok (.ifCond .eq 20, 3) := by decide +kernel
theorem dX7_strike_12 : decode cX7_strike 12 = .ok (.aload_n 0, 1) := by decide +kernel
theorem dX7_strike_13 : decode cX7_strike 13 = .ok (.iload_n 2, 1) := by decide +kernel
theorem dX7_strike_14 : decode cX7_strike 14 = .ok (.invokevirtual 133, 3) := by decide +kernel
theorem dX7_strike_17 : decode cX7_strike 17 = .ok (.ifCond .eq 12, 3) := by decide +kernel
theorem dX7_strike_20 : decode cX7_strike 20 = .ok (.aload_n 0, 1) := by decide +kernel
theorem dX7_strike_21 : decode cX7_strike 21 = .ok (.iload_n 1, 1) := by decide +kernel
theorem dX7_strike_22 : decode cX7_strike 22 = .ok (.iload_n 2, 1) := by decide +kernel
theorem dX7_strike_23 : decode cX7_strike 23 = .ok (.invokevirtual 231, 3) := by decide +kernel
theorem dX7_strike_26 : decode cX7_strike 26 = .ok (.goto 6, 3) := by decide +kernel
theorem dX7_strike_29 : decode cX7_strike 29 = .ok (.sipush (-1002), 3) := by decide +kernel
theorem dX7_strike_32 : decode cX7_strike 32 = .ok (.ireturn, 1) := by decide +kernel
theorem dX7_seen_0 : decode cX7_seen 0 = .ok (.iload_n 1, 1) := by decide +kernel
theorem dX7_seen_1 : decode cX7_seen 1 = .ok (.i2l, 1) := by decide +kernel
theorem dX7_seen_2 : decode cX7_seen 2 = .ok (.lconst 0, 1) := by decide +kernel
theorem dX7_seen_3 : decode cX7_seen 3 = .ok (.ldc2_w 167, 3) := by decide +kernel
theorem dX7_seen_6 : decode cX7_seen 6 = .ok (.invokestatic 61, 3) := by decide +kernel
theorem dX7_seen_9 : decode cX7_seen 9 = .ok (.ifCond .eq 15, 3) := by decide +kernel
theorem dX7_seen_12 : decode cX7_seen 12 = .ok (.iload_n 2, 1) := by decide +kernel
theorem dX7_seen_13 : decode cX7_seen 13 = .ok (.i2l, 1) := by decide +kernel
theorem dX7_seen_14 : decode cX7_seen 14 = .ok (.lconst 0, 1) := by decide +kernel
theorem dX7_seen_15 : decode cX7_seen 15 = .ok (.ldc2_w 234, 3) := by decide +kernel
theorem dX7_seen_18 : decode cX7_seen 18 = .ok (.invokestatic 61, 3) := by decide +kernel
theorem dX7_seen_21 : decode cX7_seen 21 = .ok (.ifCond .ne 6, 3) := by decide +kernel
theorem dX7_seen_24 : decode cX7_seen 24 = .ok (.bipush (-2), 2) := by decide +kernel
theorem dX7_seen_26 : decode cX7_seen 26 = .ok (.ireturn, 1) := by decide +kernel
theorem dX7_seen_27 : decode cX7_seen 27 = .ok (.aload_n 0, 1) := by decide +kernel
theorem dX7_seen_28 : decode cX7_seen 28 = .ok (.getfield 236, 3) := by decide +kernel
theorem dX7_seen_31 : decode cX7_seen 31 = .ok (.bipush 8, 2) := by decide +kernel
theorem dX7_seen_33 : decode cX7_seen 33 = .ok (.if_icmp .ne 6, 3) := by decide +kernel
theorem dX7_seen_36 : decode cX7_seen 36 = .ok (.bipush (-4), 2) := by decide +kernel
theorem dX7_seen_38 : decode cX7_seen 38 = .ok (.ireturn, 1) := by decide +kernel
theorem dX7_seen_39 : decode cX7_seen 39 = .ok (.aload_n 0, 1) := by decide +kernel
theorem dX7_seen_40 : decode cX7_seen 40 = .ok (.getfield 49, 3) := by decide +kernel
theorem dX7_seen_43 : decode cX7_seen 43 = .ok (.iconst 2, 1) := by decide +kernel
theorem dX7_seen_44 : decode cX7_seen 44 = .ok (.aload_n 0, 1) := by decide +kernel
theorem dX7_seen_45 : decode cX7_seen 45 = .ok (.getfield 236, 3) := by decide +kernel
theorem dX7_seen_48 : decode cX7_seen 48 = .ok (.imul, 1) := by decide +kernel
theorem dX7_seen_49 : decode cX7_seen 49 = .ok (.iload_n 1, 1) := by decide +kernel
theorem dX7_seen_50 : decode cX7_seen 50 = .ok (.iastore, 1) := by decide +kernel
theorem dX7_seen_51 : decode cX7_seen 51 = .ok (.aload_n 0, 1) := by decide +kernel
theorem dX7_seen_52 : decode cX7_seen 52 = .ok (.getfield 49, 3) := by decide +kernel
theorem dX7_seen_55 : decode cX7_seen 55 = .ok (.iconst 2, 1) := by decide +kernel
theorem dX7_seen_56 : decode cX7_seen 56 = .ok (.aload_n 0, 1) := by decide +kernel
theorem dX7_seen_57 : decode cX7_seen 57 = .ok (.getfield 236, 3) := by decide +kernel
theorem dX7_seen_60 : decode cX7_seen 60 = .ok (.imul, 1) := by decide +kernel
theorem dX7_seen_61 : decode cX7_seen 61 = .ok (.iconst 1, 1) := by decide +kernel
theorem dX7_seen_62 : decode cX7_seen 62 = .ok (.iadd, 1) := by decide +kernel
theorem dX7_seen_63 : decode cX7_seen 63 = .ok (.iload_n 2, 1) := by decide +kernel
theorem dX7_seen_64 : decode cX7_seen 64 = .ok (.iastore, 1) := by decide +kernel
theorem dX7_seen_65 : decode cX7_seen 65 = .ok (.aload_n 0, 1) := by decide +kernel
theorem dX7_seen_66 : decode cX7_seen 66 = .ok (.dup, 1) := by decide +kernel
theorem dX7_seen_67 : decode cX7_seen 67 = .ok (.getfield 236, 3) := by decide +kernel
theorem dX7_seen_70 : decode cX7_seen 70 = .ok (.iconst 1, 1) := by decide +kernel
theorem dX7_seen_71 : decode cX7_seen 71 = .ok (.iadd, 1) := by decide +kernel
theorem dX7_seen_72 : decode cX7_seen 72 = .ok (.putfield 236, 3) := by decide +kernel
theorem dX7_seen_75 : decode cX7_seen 75 = .ok (.aload_n 0, 1) := by decide +kernel
theorem dX7_seen_76 : decode cX7_seen 76 = .ok (.getfield 236, 3) := by decide +kernel
theorem dX7_seen_79 : decode cX7_seen 79 = .ok (.ireturn, 1) := by decide +kernel
theorem dX7_forget_0 : decode cX7_forget 0 = .ok (.aload_n 0, 1) := by decide +kernel
theorem dX7_forget_1 : decode cX7_forget 1 = .ok (.getfield 236, 3) := by decide +kernel
theorem dX7_forget_4 : decode cX7_forget 4 = .ok (.istore_n 1, 1) := by decide +kernel
theorem dX7_forget_5 : decode cX7_forget 5 = .ok (.aload_n 0, 1) := by decide +kernel
theorem dX7_forget_6 : decode cX7_forget 6 = .ok (.iconst 0, 1) := by decide +kernel
theorem dX7_forget_7 : decode cX7_forget 7 = .ok (.putfield 236, 3) := by decide +kernel
theorem dX7_forget_10 : decode cX7_forget 10 = .ok (.iload_n 1, 1) := by decide +kernel
theorem dX7_forget_11 : decode cX7_forget 11 = .ok (.ireturn, 1) := by decide +kernel
theorem dX7_isSeen_0 : decode cX7_isSeen 0 = .ok (.aload_n 0, 1) := by decide +kernel
theorem dX7_isSeen_1 : decode cX7_isSeen 1 = .ok (.iload_n 1, 1) := by decide +kernel
theorem dX7_isSeen_2 : decode cX7_isSeen 2 = .ok (.putfield 55, 3) := by decide +kernel
theorem dX7_isSeen_5 : decode cX7_isSeen 5 = .ok (.iconst 1, 1) := by decide +kernel
theorem dX7_isSeen_6 : decode cX7_isSeen 6 = .ok (.istore_n 2, 1) := by decide +kernel
theorem dX7_isSeen_7 : decode cX7_isSeen 7 = .ok (.iconst 0, 1) := by decide +kernel
theorem dX7_isSeen_8 : decode cX7_isSeen 8 = .ok (.istore_n 3, 1) := by decide +kernel
theorem dX7_isSeen_9 : decode cX7_isSeen 9 = .ok (.iload_n 3, 1) := by decide +kernel
theorem dX7_isSeen_10 : decode cX7_isSeen 10 = .ok (.aload_n 0, 1) := by decide +kernel
theorem dX7_isSeen_11 : decode cX7_isSeen 11 = .ok (.getfield 236, 3) := by decide +kernel
theorem dX7_isSeen_14 : decode cX7_isSeen 14 = .ok (.if_icmp .ge 57, 3) := by decide +kernel
theorem dX7_isSeen_17 : decode cX7_isSeen 17 = .ok (.iload_n 2, 1) := by decide +kernel
theorem dX7_isSeen_18 : decode cX7_isSeen 18 = .ok (.ifCond .eq 53, 3) := by decide +kernel
theorem dX7_isSeen_21 : decode cX7_isSeen 21 = .ok (.aload_n 0, 1) := by decide +kernel
theorem dX7_isSeen_22 : decode cX7_isSeen 22 = .ok (.aload_n 0, 1) := by decide +kernel
theorem dX7_isSeen_23 : decode cX7_isSeen 23 = .ok (.getfield 49, 3) := by decide +kernel
theorem dX7_isSeen_26 : decode cX7_isSeen 26 = .ok (.iconst 2, 1) := by decide +kernel
theorem dX7_isSeen_27 : decode cX7_isSeen 27 = .ok (.iload_n 3, 1) := by decide +kernel
theorem dX7_isSeen_28 : decode cX7_isSeen 28 = .ok (.imul, 1) := by decide +kernel
theorem dX7_isSeen_29 : decode cX7_isSeen 29 = .ok (.iaload, 1) := by decide +kernel
theorem dX7_isSeen_30 : decode cX7_isSeen 30 = .ok (.invokevirtual 212, 3) := by decide +kernel
theorem dX7_isSeen_33 : decode cX7_isSeen 33 = .ok (.aload_n 0, 1) := by decide +kernel
theorem dX7_isSeen_34 : decode cX7_isSeen 34 = .ok (.getfield 46, 3) := by decide +kernel
theorem dX7_isSeen_37 : decode cX7_isSeen 37 = .ok (.aload_n 0, 1) := by decide +kernel
theorem dX7_isSeen_38 : decode cX7_isSeen 38 = .ok (.getfield 49, 3) := by decide +kernel
theorem dX7_isSeen_41 : decode cX7_isSeen 41 = .ok (.iconst 2, 1) := by decide +kernel
theorem dX7_isSeen_42 : decode cX7_isSeen 42 = .ok (.iload_n 3, 1) := by decide +kernel
theorem dX7_isSeen_43 : decode cX7_isSeen 43 = .ok (.imul, 1) := by decide +kernel
theorem dX7_isSeen_44 : decode cX7_isSeen 44 = .ok (.iaload, 1) := by decide +kernel
theorem dX7_isSeen_45 : decode cX7_isSeen 45 = .ok (.iaload, 1) := by decide +kernel
theorem dX7_isSeen_46 : decode cX7_isSeen 46 = .ok (.aload_n 0, 1) := by decide +kernel
theorem dX7_isSeen_47 : decode cX7_isSeen 47 = .ok (.getfield 49, 3) := by decide +kernel
theorem dX7_isSeen_50 : decode cX7_isSeen 50 = .ok (.iconst 2, 1) := by decide +kernel
theorem dX7_isSeen_51 : decode cX7_isSeen 51 = .ok (.iload_n 3, 1) := by decide +kernel
theorem dX7_isSeen_52 : decode cX7_isSeen 52 = .ok (.imul, 1) := by decide +kernel
theorem dX7_isSeen_53 : decode cX7_isSeen 53 = .ok (.iconst 1, 1) := by decide +kernel
theorem dX7_isSeen_54 : decode cX7_isSeen 54 = .ok (.iadd, 1) := by decide +kernel
theorem dX7_isSeen_55 : decode cX7_isSeen 55 = .ok (.iaload, 1) := by decide +kernel
theorem dX7_isSeen_56 : decode cX7_isSeen 56 = .ok (.if_icmp .ne 7, 3) := by decide +kernel
theorem dX7_isSeen_59 : decode cX7_isSeen 59 = .ok (.iconst 1, 1) := by decide +kernel
theorem dX7_isSeen_60 : decode cX7_isSeen 60 = .ok (.goto 4, 3) := by decide +kernel
theorem dX7_isSeen_63 : decode cX7_isSeen 63 = .ok (.iconst 0, 1) := by decide +kernel
theorem dX7_isSeen_64 : decode cX7_isSeen 64 = .ok (.istore_n 2, 1) := by decide +kernel
theorem dX7_isSeen_65 : decode cX7_isSeen 65 = .ok (.iinc 3 1, 3) := by decide +kernel
theorem dX7_isSeen_68 : decode cX7_isSeen 68 = .ok (.goto (-59), 3) := by decide +kernel
theorem dX7_isSeen_71 : decode cX7_isSeen 71 = .ok (.aload_n 0, 1) := by decide +kernel
theorem dX7_isSeen_72 : decode cX7_isSeen 72 = .ok (.sipush 255, 3) := by decide +kernel
theorem dX7_isSeen_75 : decode cX7_isSeen 75 = .ok (.putfield 55, 3) := by decide +kernel
theorem dX7_isSeen_78 : decode cX7_isSeen 78 = .ok (.iload_n 2, 1) := by decide +kernel
theorem dX7_isSeen_79 : decode cX7_isSeen 79 = .ok (.ireturn, 1) := by decide +kernel
theorem dX7_soundOf_0 : decode cX7_soundOf 0 = .ok (.iconst 0, 1) := by decide +kernel
theorem dX7_soundOf_1 : decode cX7_soundOf 1 = .ok (.istore_n 2, 1) := by decide +kernel
theorem dX7_soundOf_2 : decode cX7_soundOf 2 = .ok (.iconst (-1), 1) := by decide +kernel
theorem dX7_soundOf_3 : decode cX7_soundOf 3 = .ok (.istore_n 3, 1) := by decide +kernel
theorem dX7_soundOf_4 : decode cX7_soundOf 4 = .ok (.iconst 0, 1) := by decide +kernel
theorem dX7_soundOf_5 : decode cX7_soundOf 5 = .ok (.istore 4, 2) := by decide +kernel
theorem dX7_soundOf_7 : decode cX7_soundOf 7 = .ok (.iload 4, 2) := by decide +kernel
theorem dX7_soundOf_9 : decode cX7_soundOf 9 = .ok (.iconst 1, 1) := by decide +kernel
theorem dX7_soundOf_10 : decode cX7_soundOf 10 = .ok (.aload_n 0, 1) := by decide +kernel
theorem dX7_soundOf_11 : decode cX7_soundOf 11 = .ok (.getfield 28, 3) := by decide +kernel
theorem dX7_soundOf_14 : decode cX7_soundOf 14 = .ok (.iconst 1, 1) := by decide +kernel
theorem dX7_soundOf_15 : decode cX7_soundOf 15 = .ok (.iaload, 1) := by decide +kernel
theorem dX7_soundOf_16 : decode cX7_soundOf 16 = .ok (.ishl, 1) := by decide +kernel
theorem dX7_soundOf_17 : decode cX7_soundOf 17 = .ok (.if_icmp .ge 32, 3) := by decide +kernel
theorem dX7_soundOf_20 : decode cX7_soundOf 20 = .ok (.aload_n 0, 1) := by decide +kernel
theorem dX7_soundOf_21 : decode cX7_soundOf 21 = .ok (.iload 4, 2) := by decide +kernel
theorem dX7_soundOf_23 : decode cX7_soundOf 23 = .ok (.invokevirtual 239, 3) := by decide +kernel
theorem dX7_soundOf_26 : decode cX7_soundOf 26 = .ok (.ifCond .eq 17, 3) := by decide +kernel
theorem dX7_soundOf_29 : decode cX7_soundOf 29 = .ok (.iload_n 2, 1) := by decide +kernel
theorem dX7_soundOf_30 : decode cX7_soundOf 30 = .ok (.ifCond .ne 8, 3) := by decide +kernel
theorem dX7_soundOf_33 : decode cX7_soundOf 33 = .ok (.iload 4, 2) := by decide +kernel
theorem dX7_soundOf_35 : decode cX7_soundOf 35 = .ok (.goto 4, 3) := by decide +kernel
theorem dX7_soundOf_38 : decode cX7_soundOf 38 = .ok (.iload_n 3, 1) := by decide +kernel
theorem dX7_soundOf_39 : decode cX7_soundOf 39 = .ok (.istore_n 3, 1) := by decide +kernel
theorem dX7_soundOf_40 : decode cX7_soundOf 40 = .ok (.iinc 2 1, 3) := by decide +kernel
theorem dX7_soundOf_43 : decode cX7_soundOf 43 = .ok (.iinc 4 1, 3) := by decide +kernel
theorem dX7_soundOf_46 : decode cX7_soundOf 46 = .ok (.goto (-39), 3) := by decide +kernel
theorem dX7_soundOf_49 : decode cX7_soundOf 49 = .ok (.iload_n 1, 1) := by decide +kernel
theorem dX7_soundOf_50 : decode cX7_soundOf 50 = .ok (.ifCond .ne 7, 3) := by decide +kernel
theorem dX7_soundOf_53 : decode cX7_soundOf 53 = .ok (.iload_n 2, 1) := by decide +kernel
theorem dX7_soundOf_54 : decode cX7_soundOf 54 = .ok (.goto 4, 3) := by decide +kernel
theorem dX7_soundOf_57 : decode cX7_soundOf 57 = .ok (.iload_n 3, 1) := by decide +kernel
theorem dX7_soundOf_58 : decode cX7_soundOf 58 = .ok (.ireturn, 1) := by decide +kernel
theorem dX7_sound_0 : decode cX7_sound 0 = .ok (.aload_n 0, 1) := by decide +kernel
theorem dX7_sound_1 : decode cX7_sound 1 = .ok (.invokevirtual 124, 3) := by decide +kernel
theorem dX7_sound_4 : decode cX7_sound 4 = .ok (.iload_n 1, 1) := by decide +kernel
theorem dX7_sound_5 : decode cX7_sound 5 = .ok (.invokestatic 130, 3) := by decide +kernel
theorem dX7_sound_8 : decode cX7_sound 8 = .ok (.ifCond .eq 11, 3) := by decide +kernel
theorem dX7_sound_11 : decode cX7_sound 11 = .ok (.aload_n 0, 1) := by decide +kernel
theorem dX7_sound_12 : decode cX7_sound 12 = .ok (.iload_n 1, 1) := by decide +kernel
theorem dX7_sound_13 : decode cX7_sound 13 = .ok (.invokevirtual 242, 3) := by decide +kernel
theorem dX7_sound_16 : decode cX7_sound 16 = .ok (.goto 5, 3) := by decide +kernel
theorem dX7_sound_19 : decode cX7_sound 19 = .ok (.bipush (-2), 2) := by decide +kernel
theorem dX7_sound_21 : decode cX7_sound 21 = .ok (.ireturn, 1) := by decide +kernel
theorem dX7_mostAlike_0 : decode cX7_mostAlike 0 = .ok (.iconst 0, 1) := by decide +kernel
theorem dX7_mostAlike_1 : decode cX7_mostAlike 1 = .ok (.istore_n 2, 1) := by decide +kernel
theorem dX7_mostAlike_2 : decode cX7_mostAlike 2 = .ok (.iconst 0, 1) := by decide +kernel
theorem dX7_mostAlike_3 : decode cX7_mostAlike 3 = .ok (.istore_n 3, 1) := by decide +kernel
theorem dX7_mostAlike_4 : decode cX7_mostAlike 4 = .ok (.iload_n 3, 1) := by decide +kernel
theorem dX7_mostAlike_5 : decode cX7_mostAlike 5 = .ok (.iconst 1, 1) := by decide +kernel
theorem dX7_mostAlike_6 : decode cX7_mostAlike 6 = .ok (.aload_n 0, 1) := by decide +kernel
theorem dX7_mostAlike_7 : decode cX7_mostAlike 7 = .ok (.getfield 28, 3) := by decide +kernel
theorem dX7_mostAlike_10 : decode cX7_mostAlike 10 = .ok (.iconst 1, 1) := by decide +kernel
theorem dX7_mostAlike_11 : decode cX7_mostAlike 11 = .ok (.iaload, 1) := by decide +kernel
theorem dX7_mostAlike_12 : decode cX7_mostAlike 12 = .ok (.ishl, 1) := by decide +kernel
theorem dX7_mostAlike_13 : decode cX7_mostAlike 13 = .ok (.if_icmp .ge 49, 3) := by decide +kernel
theorem dX7_mostAlike_16 : decode cX7_mostAlike 16 = .ok (.aload_n 0, 1) := by decide +kernel
theorem dX7_mostAlike_17 : decode cX7_mostAlike 17 = .ok (.iload_n 3, 1) := by decide +kernel
theorem dX7_mostAlike_18 : decode cX7_mostAlike 18 = .ok (.invokevirtual 239, 3) := by decide +kernel
theorem dX7_mostAlike_21 : decode cX7_mostAlike 21 = .ok (.ifCond .eq 35, 3) := by decide +kernel
theorem dX7_mostAlike_24 : decode cX7_mostAlike 24 = .ok (.aload_n 0, 1) := by decide +kernel
theorem dX7_mostAlike_25 : decode cX7_mostAlike 25 = .ok (.iload_n 3, 1) := by decide +kernel
theorem dX7_mostAlike_26 : decode cX7_mostAlike 26 = .ok (.putfield 55, 3) := by decide +kernel
theorem dX7_mostAlike_29 : decode cX7_mostAlike 29 = .ok (.aload_n 0, 1) := by decide +kernel
theorem dX7_mostAlike_30 : decode cX7_mostAlike 30 = .ok (.iload_n 1, 1) := by decide +kernel
theorem dX7_mostAlike_31 : decode cX7_mostAlike 31 = .ok (.invokevirtual 212, 3) := by decide +kernel
theorem dX7_mostAlike_34 : decode cX7_mostAlike 34 = .ok (.aload_n 0, 1) := by decide +kernel
theorem dX7_mostAlike_35 : decode cX7_mostAlike 35 = .ok (.sipush 255, 3) := by decide +kernel
theorem dX7_mostAlike_38 : decode cX7_mostAlike 38 = .ok (.putfield 55, 3) := by decide +kernel
theorem dX7_mostAlike_41 : decode cX7_mostAlike 41 = .ok (.aload_n 0, 1) := by decide +kernel
theorem dX7_mostAlike_42 : decode cX7_mostAlike 42 = .ok (.getfield 52, 3) := by decide +kernel
theorem dX7_mostAlike_45 : decode cX7_mostAlike 45 = .ok (.iload_n 2, 1) := by decide +kernel
theorem dX7_mostAlike_46 : decode cX7_mostAlike 46 = .ok (.aload_n 0, 1) := by decide +kernel
theorem dX7_mostAlike_47 : decode cX7_mostAlike 47 = .ok (.getfield 46, 3) := by decide +kernel
theorem dX7_mostAlike_50 : decode cX7_mostAlike 50 = .ok (.iload_n 1, 1) := by decide +kernel
theorem dX7_mostAlike_51 : decode cX7_mostAlike 51 = .ok (.iaload, 1) := by decide +kernel
theorem dX7_mostAlike_52 : decode cX7_mostAlike 52 = .ok (.iastore, 1) := by decide +kernel
theorem dX7_mostAlike_53 : decode cX7_mostAlike 53 = .ok (.iinc 2 1, 3) := by decide +kernel
theorem dX7_mostAlike_56 : decode cX7_mostAlike 56 = .ok (.iinc 3 1, 3) := by decide +kernel
theorem dX7_mostAlike_59 : decode cX7_mostAlike 59 = .ok (.goto (-55), 3) := by decide +kernel
theorem dX7_mostAlike_62 : decode cX7_mostAlike 62 = .ok (.iconst 0, 1) := by decide +kernel
theorem dX7_mostAlike_63 : decode cX7_mostAlike 63 = .ok (.istore_n 3, 1) := by decide +kernel
theorem dX7_mostAlike_64 : decode cX7_mostAlike 64 = .ok (.iconst 0, 1) := by decide +kernel
theorem dX7_mostAlike_65 : decode cX7_mostAlike 65 = .ok (.istore 4, 2) := by decide +kernel
theorem dX7_mostAlike_67 : decode cX7_mostAlike 67 = .ok (.iload 4, 2) := by decide +kernel
theorem dX7_mostAlike_69 : decode cX7_mostAlike 69 = .ok (.iload_n 2, 1) := by decide +kernel
theorem dX7_mostAlike_70 : decode cX7_mostAlike 70 = .ok (.if_icmp .ge 67, 3) := by decide +kernel
theorem dX7_mostAlike_73 : decode cX7_mostAlike 73 = .ok (.iconst 0, 1) := by decide +kernel
theorem dX7_mostAlike_74 : decode cX7_mostAlike 74 = .ok (.istore 5, 2) := by decide +kernel
theorem dX7_mostAlike_76 : decode cX7_mostAlike 76 = .ok (.iconst 0, 1) := by decide +kernel
theorem dX7_mostAlike_77 : decode cX7_mostAlike 77 = .ok (.istore 6, 2) := by decide +kernel
theorem dX7_mostAlike_79 : decode cX7_mostAlike 79 = .ok (.iload 6, 2) := by decide +kernel
theorem dX7_mostAlike_81 : decode cX7_mostAlike 81 = .ok (.iload_n 2, 1) := by decide +kernel
theorem dX7_mostAlike_82 : decode cX7_mostAlike 82 = .ok (.if_icmp .ge 36, 3) := by decide +kernel
theorem dX7_mostAlike_85 : decode cX7_mostAlike 85 = .ok (.iload 5, 2) := by decide +kernel
theorem dX7_mostAlike_87 : decode cX7_mostAlike 87 = .ok (.aload_n 0, 1) := by decide +kernel
theorem dX7_mostAlike_88 : decode cX7_mostAlike 88 = .ok (.getfield 52, 3) := by decide +kernel
theorem dX7_mostAlike_91 : decode cX7_mostAlike 91 = .ok (.iload 4, 2) := by decide +kernel
theorem dX7_mostAlike_93 : decode cX7_mostAlike 93 = .ok (.iaload, 1) := by decide +kernel
theorem dX7_mostAlike_94 : decode cX7_mostAlike 94 = .ok (.aload_n 0, 1) := by decide +kernel
theorem dX7_mostAlike_95 : decode cX7_mostAlike 95 = .ok (.getfield 52, 3) := by decide +kernel
theorem dX7_mostAlike_98 : decode cX7_mostAlike 98 = .ok (.iload 6, 2) := by decide +kernel
theorem dX7_mostAlike_100 : decode cX7_mostAlike 100 = .ok (.iaload, 1) := by decide +kernel
theorem dX7_mostAlike_101 : decode cX7_mostAlike 101 = .ok (.if_icmp .ne 7, 3) := by decide +kernel
theorem dX7_mostAlike_104 : decode cX7_mostAlike 104 = .ok (.iconst 1, 1) := by decide +kernel
theorem dX7_mostAlike_105 : decode cX7_mostAlike 105 = .ok (.goto 4, 3) := by decide +kernel
theorem dX7_mostAlike_108 : decode cX7_mostAlike 108 = .ok (.iconst 0, 1) := by decide +kernel
theorem dX7_mostAlike_109 : decode cX7_mostAlike 109 = .ok (.iadd, 1) := by decide +kernel
theorem dX7_mostAlike_110 : decode cX7_mostAlike 110 = .ok (.istore 5, 2) := by decide +kernel
theorem dX7_mostAlike_112 : decode cX7_mostAlike 112 = .ok (.iinc 6 1, 3) := by decide +kernel
theorem dX7_mostAlike_115 : decode cX7_mostAlike 115 = .ok (.goto (-36), 3) := by decide +kernel
theorem dX7_mostAlike_118 : decode cX7_mostAlike 118 = .ok (.iload 5, 2) := by decide +kernel
theorem dX7_mostAlike_120 : decode cX7_mostAlike 120 = .ok (.iload_n 3, 1) := by decide +kernel
theorem dX7_mostAlike_121 : decode cX7_mostAlike 121 = .ok (.if_icmp .le 8, 3) := by decide +kernel
theorem dX7_mostAlike_124 : decode cX7_mostAlike 124 = .ok (.iload 5, 2) := by decide +kernel
theorem dX7_mostAlike_126 : decode cX7_mostAlike 126 = .ok (.goto 4, 3) := by decide +kernel
theorem dX7_mostAlike_129 : decode cX7_mostAlike 129 = .ok (.iload_n 3, 1) := by decide +kernel
theorem dX7_mostAlike_130 : decode cX7_mostAlike 130 = .ok (.istore_n 3, 1) := by decide +kernel
theorem dX7_mostAlike_131 : decode cX7_mostAlike 131 = .ok (.iinc 4 1, 3) := by decide +kernel
theorem dX7_mostAlike_134 : decode cX7_mostAlike 134 = .ok (.goto (-67), 3) := by decide +kernel
theorem dX7_mostAlike_137 : decode cX7_mostAlike 137 = .ok (.iload_n 3, 1) := by decide +kernel
theorem dX7_mostAlike_138 : decode cX7_mostAlike 138 = .ok (.ireturn, 1) := by decide +kernel
theorem dX7_pressNow_0 : decode cX7_pressNow 0 = .ok (.iconst (-1), 1) := by decide +kernel
theorem dX7_pressNow_1 : decode cX7_pressNow 1 = .ok (.istore_n 1, 1) := by decide +kernel
theorem dX7_pressNow_2 : decode cX7_pressNow 2 = .ok (.iconst 0, 1) := by decide +kernel
theorem dX7_pressNow_3 : decode cX7_pressNow 3 = .ok (.istore_n 2, 1) := by decide +kernel
theorem dX7_pressNow_4 : decode cX7_pressNow 4 = .ok (.iconst 0, 1) := by decide +kernel
theorem dX7_pressNow_5 : decode cX7_pressNow 5 = .ok (.istore_n 3, 1) := by decide +kernel
theorem dX7_pressNow_6 : decode cX7_pressNow 6 = .ok (.iload_n 3, 1) := by decide +kernel
theorem dX7_pressNow_7 : decode cX7_pressNow 7 = .ok (.aload_n 0, 1) := by decide +kernel
theorem dX7_pressNow_8 : decode cX7_pressNow 8 = .ok (.getfield 28, 3) := by decide +kernel
theorem dX7_pressNow_11 : decode cX7_pressNow 11 = .ok (.iconst 0, 1) := by decide +kernel
theorem dX7_pressNow_12 : decode cX7_pressNow 12 = .ok (.iaload, 1) := by decide +kernel
theorem dX7_pressNow_13 : decode cX7_pressNow 13 = .ok (.if_icmp .ge 57, 3) := by decide +kernel
theorem dX7_pressNow_16 : decode cX7_pressNow 16 = .ok (.aload_n 0, 1) := by decide +kernel
theorem dX7_pressNow_17 : decode cX7_pressNow 17 = .ok (.iload_n 3, 1) := by decide +kernel
theorem dX7_pressNow_18 : decode cX7_pressNow 18 = .ok (.invokevirtual 245, 3) := by decide +kernel
theorem dX7_pressNow_21 : decode cX7_pressNow 21 = .ok (.istore 4, 2) := by decide +kernel
theorem dX7_pressNow_23 : decode cX7_pressNow 23 = .ok (.iload_n 1, 1) := by decide +kernel
theorem dX7_pressNow_24 : decode cX7_pressNow 24 = .ok (.iconst (-1), 1) := by decide +kernel
theorem dX7_pressNow_25 : decode cX7_pressNow 25 = .ok (.if_icmp .eq 9, 3) := by decide +kernel
theorem dX7_pressNow_28 : decode cX7_pressNow 28 = .ok (.iload 4, 2) := by decide +kernel
theorem dX7_pressNow_30 : decode cX7_pressNow 30 = .ok (.iload_n 2, 1) := by decide +kernel
theorem dX7_pressNow_31 : decode cX7_pressNow 31 = .ok (.if_icmp .ge 7, 3) := by decide +kernel
theorem dX7_pressNow_34 : decode cX7_pressNow 34 = .ok (.iconst 1, 1) := by decide +kernel
theorem dX7_pressNow_35 : decode cX7_pressNow 35 = .ok (.goto 4, 3) := by decide +kernel
theorem dX7_pressNow_38 : decode cX7_pressNow 38 = .ok (.iconst 0, 1) := by decide +kernel
theorem dX7_pressNow_39 : decode cX7_pressNow 39 = .ok (.istore 5, 2) := by decide +kernel
theorem dX7_pressNow_41 : decode cX7_pressNow 41 = .ok (.iload 5, 2) := by decide +kernel
theorem dX7_pressNow_43 : decode cX7_pressNow 43 = .ok (.ifCond .eq 7, 3) := by decide +kernel
theorem dX7_pressNow_46 : decode cX7_pressNow 46 = .ok (.iload_n 3, 1) := by decide +kernel
theorem dX7_pressNow_47 : decode cX7_pressNow 47 = .ok (.goto 4, 3) := by decide +kernel
theorem dX7_pressNow_50 : decode cX7_pressNow 50 = .ok (.iload_n 1, 1) := by decide +kernel
theorem dX7_pressNow_51 : decode cX7_pressNow 51 = .ok (.istore_n 1, 1) := by decide +kernel
theorem dX7_pressNow_52 : decode cX7_pressNow 52 = .ok (.iload 5, 2) := by decide +kernel
theorem dX7_pressNow_54 : decode cX7_pressNow 54 = .ok (.ifCond .eq 8, 3) := by decide +kernel
theorem dX7_pressNow_57 : decode cX7_pressNow 57 = .ok (.iload 4, 2) := by decide +kernel
theorem dX7_pressNow_59 : decode cX7_pressNow 59 = .ok (.goto 4, 3) := by decide +kernel
theorem dX7_pressNow_62 : decode cX7_pressNow 62 = .ok (.iload_n 2, 1) := by decide +kernel
theorem dX7_pressNow_63 : decode cX7_pressNow 63 = .ok (.istore_n 2, 1) := by decide +kernel
theorem dX7_pressNow_64 : decode cX7_pressNow 64 = .ok (.iinc 3 1, 3) := by decide +kernel
theorem dX7_pressNow_67 : decode cX7_pressNow 67 = .ok (.goto (-61), 3) := by decide +kernel
theorem dX7_pressNow_70 : decode cX7_pressNow 70 = .ok (.iload_n 1, 1) := by decide +kernel
theorem dX7_pressNow_71 : decode cX7_pressNow 71 = .ok (.ireturn, 1) := by decide +kernel
theorem dX7_press_0 : decode cX7_press 0 = .ok (.aload_n 0, 1) := by decide +kernel
theorem dX7_press_1 : decode cX7_press 1 = .ok (.invokevirtual 124, 3) := by decide +kernel
theorem dX7_press_4 : decode cX7_press 4 = .ok (.aload_n 0, 1) := by decide +kernel
theorem dX7_press_5 : decode cX7_press 5 = .ok (.invokevirtual 248, 3) := by decide +kernel
theorem dX7_press_8 : decode cX7_press 8 = .ok (.ireturn, 1) := by decide +kernel
theorem dX7_fairOf_0 : decode cX7_fairOf 0 = .ok (.lconst 0, 1) := by decide +kernel
theorem dX7_fairOf_1 : decode cX7_fairOf 1 = .ok (.lstore_n 3, 1) := by decide +kernel
theorem dX7_fairOf_2 : decode cX7_fairOf 2 = .ok (.iconst 0, 1) := by decide +kernel
theorem dX7_fairOf_3 : decode cX7_fairOf 3 = .ok (.istore 5, 2) := by decide +kernel
theorem dX7_fairOf_5 : decode cX7_fairOf 5 = .ok (.iload 5, 2) := by decide +kernel
theorem dX7_fairOf_7 : decode cX7_fairOf 7 = .ok (.aload_n 0, 1) := by decide +kernel
theorem dX7_fairOf_8 : decode cX7_fairOf 8 = .ok (.getfield 28, 3) := by decide +kernel
theorem dX7_fairOf_11 : decode cX7_fairOf 11 = .ok (.iconst 0, 1) := by decide +kernel
theorem dX7_fairOf_12 : decode cX7_fairOf 12 = .ok (.iaload, 1) := by decide +kernel
theorem dX7_fairOf_13 : decode cX7_fairOf 13 = .ok (.if_icmp .ge 33, 3) := by decide +kernel
theorem dX7_fairOf_16 : decode cX7_fairOf 16 = .ok (.lload_n 3, 1) := by decide +kernel
theorem dX7_fairOf_17 : decode cX7_fairOf 17 = .ok (.aload_n 0, 1) := by decide +kernel
theorem dX7_fairOf_18 : decode cX7_fairOf 18 = .ok (.getfield 31, 3) := by decide +kernel
theorem dX7_fairOf_21 : decode cX7_fairOf 21 = .ok (.iconst 2, 1) := by decide +kernel
theorem dX7_fairOf_22 : decode cX7_fairOf 22 = .ok (.iload 5, 2) := by decide +kernel
theorem dX7_fairOf_24 : decode cX7_fairOf 24 = .ok (.imul, 1) := by decide +kernel
theorem dX7_fairOf_25 : decode cX7_fairOf 25 = .ok (.iconst 1, 1) := by decide +kernel
theorem dX7_fairOf_26 : decode cX7_fairOf 26 = .ok (.iadd, 1) := by decide +kernel
theorem dX7_fairOf_27 : decode cX7_fairOf 27 = .ok (.iaload, 1) := by decide +kernel
theorem dX7_fairOf_28 : decode cX7_fairOf 28 = .ok (.i2l, 1) := by decide +kernel
theorem dX7_fairOf_29 : decode cX7_fairOf 29 = .ok (.aload_n 0, 1) := by decide +kernel
theorem dX7_fairOf_30 : decode cX7_fairOf 30 = .ok (.iload 5, 2) := by decide +kernel
theorem dX7_fairOf_32 : decode cX7_fairOf 32 = .ok (.iload_n 1, 1) := by decide +kernel
theorem dX7_fairOf_33 : decode cX7_fairOf 33 = .ok (.invokevirtual 161, 3) := by decide +kernel
theorem dX7_fairOf_36 : decode cX7_fairOf 36 = .ok (.i2l, 1) := by decide +kernel
theorem dX7_fairOf_37 : decode cX7_fairOf 37 = .ok (.lmul, 1) := by decide +kernel
theorem dX7_fairOf_38 : decode cX7_fairOf 38 = .ok (.ladd, 1) := by decide +kernel
theorem dX7_fairOf_39 : decode cX7_fairOf 39 = .ok (.lstore_n 3, 1) := by decide +kernel
theorem dX7_fairOf_40 : decode cX7_fairOf 40 = .ok (.iinc 5 1, 3) := by decide +kernel
theorem dX7_fairOf_43 : decode cX7_fairOf 43 = .ok (.goto (-38), 3) := by decide +kernel
theorem dX7_fairOf_46 : decode cX7_fairOf 46 = .ok (.lload_n 3, 1) := by decide +kernel
theorem dX7_fairOf_47 : decode cX7_fairOf 47 = .ok (.ldc2_w 251, 3) := by decide +kernel
theorem dX7_fairOf_50 : decode cX7_fairOf 50 = .ok (.iload_n 2, 1) := by decide +kernel
theorem dX7_fairOf_51 : decode cX7_fairOf 51 = .ok (.invokestatic 253, 3) := by decide +kernel
theorem dX7_fairOf_54 : decode cX7_fairOf 54 = .ok (.lreturn, 1) := by decide +kernel
theorem dX7_fair_0 : decode cX7_fair 0 = .ok (.aload_n 0, 1) := by decide +kernel
theorem dX7_fair_1 : decode cX7_fair 1 = .ok (.invokevirtual 124, 3) := by decide +kernel
theorem dX7_fair_4 : decode cX7_fair 4 = .ok (.aload_n 0, 1) := by decide +kernel
theorem dX7_fair_5 : decode cX7_fair 5 = .ok (.iload_n 1, 1) := by decide +kernel
theorem dX7_fair_6 : decode cX7_fair 6 = .ok (.invokevirtual 133, 3) := by decide +kernel
theorem dX7_fair_9 : decode cX7_fair 9 = .ok (.ifCond .eq 19, 3) := by decide +kernel
theorem dX7_fair_12 : decode cX7_fair 12 = .ok (.iload_n 2, 1) := by decide +kernel
theorem dX7_fair_13 : decode cX7_fair 13 = .ok (.invokestatic 130, 3) := by decide +kernel
theorem dX7_fair_16 : decode cX7_fair 16 = .ok (.ifCond .eq 12, 3) := by decide +kernel
theorem dX7_fair_19 : decode cX7_fair 19 = .ok (.aload_n 0, 1) := by decide +kernel
theorem dX7_fair_20 : decode cX7_fair 20 = .ok (.iload_n 1, 1) := by decide +kernel
theorem dX7_fair_21 : decode cX7_fair 21 = .ok (.iload_n 2, 1) := by decide +kernel
theorem dX7_fair_22 : decode cX7_fair 22 = .ok (.invokevirtual 257, 3) := by decide +kernel
theorem dX7_fair_25 : decode cX7_fair 25 = .ok (.goto 8, 3) := by decide +kernel
theorem dX7_fair_28 : decode cX7_fair 28 = .ok (.bipush (-2), 2) := by decide +kernel
theorem dX7_fair_30 : decode cX7_fair 30 = .ok (.invokestatic 261, 3) := by decide +kernel
theorem dX7_fair_33 : decode cX7_fair 33 = .ok (.lreturn, 1) := by decide +kernel
theorem dX7_stormOf_0 : decode cX7_stormOf 0 = .ok (.lconst 0, 1) := by decide +kernel
theorem dX7_stormOf_1 : decode cX7_stormOf 1 = .ok (.lstore 4, 2) := by decide +kernel
theorem dX7_stormOf_3 : decode cX7_stormOf 3 = .ok (.lconst 1, 1) := by decide +kernel
theorem dX7_stormOf_4 : decode cX7_stormOf 4 = .ok (.lstore 6, 2) := by decide +kernel
theorem dX7_stormOf_6 : decode cX7_stormOf 6 = .ok (.iconst 0, 1) := by decide +kernel
theorem dX7_stormOf_7 : decode cX7_stormOf 7 = .ok (.istore 8, 2) := by decide +kernel
theorem dX7_stormOf_9 : decode cX7_stormOf 9 = .ok (.iload 8, 2) := by decide +kernel
theorem dX7_stormOf_11 : decode cX7_stormOf 11 = .ok (.aload_n 0, 1) := by decide +kernel
theorem dX7_stormOf_12 : decode cX7_stormOf 12 = .ok (.getfield 28, 3) := by decide +kernel
theorem dX7_stormOf_15 : decode cX7_stormOf 15 = .ok (.iconst 0, 1) := by decide +kernel
theorem dX7_stormOf_16 : decode cX7_stormOf 16 = .ok (.iaload, 1) := by decide +kernel
theorem dX7_stormOf_17 : decode cX7_stormOf 17 = .ok (.if_icmp .ge 17, 3) := by decide +kernel
theorem dX7_stormOf_20 : decode cX7_stormOf 20 = .ok (.lload 6, 2) := by decide +kernel
theorem dX7_stormOf_22 : decode cX7_stormOf 22 = .ok (.ldc2_w 251, 3) := by decide +kernel
theorem dX7_stormOf_25 : decode cX7_stormOf 25 = .ok (.lmul, 1) := by decide +kernel
theorem dX7_stormOf_26 : decode cX7_stormOf 26 = .ok (.lstore 6, 2) := by decide +kernel
theorem dX7_stormOf_28 : decode cX7_stormOf 28 = .ok (.iinc 8 1, 3) := by decide +kernel
theorem dX7_stormOf_31 : decode cX7_stormOf 31 = .ok (.goto (-22), 3) := by decide +kernel
theorem dX7_stormOf_34 : decode cX7_stormOf 34 = .ok (.iconst 0, 1) := by decide +kernel
theorem dX7_stormOf_35 : decode cX7_stormOf 35 = .ok (.istore 8, 2) := by decide +kernel
theorem dX7_stormOf_37 : decode cX7_stormOf 37 = .ok (.iload 8, 2) := by decide +kernel
theorem dX7_stormOf_39 : decode cX7_stormOf 39 = .ok (.iconst 1, 1) := by decide +kernel
theorem dX7_stormOf_40 : decode cX7_stormOf 40 = .ok (.aload_n 0, 1) := by decide +kernel
theorem dX7_stormOf_41 : decode cX7_stormOf 41 = .ok (.getfield 28, 3) := by decide +kernel
theorem dX7_stormOf_44 : decode cX7_stormOf 44 = .ok (.iconst 0, 1) := by decide +kernel
theorem dX7_stormOf_45 : decode cX7_stormOf 45 = .ok (.iaload, 1) := by decide +kernel
theorem dX7_stormOf_46 : decode cX7_stormOf 46 = .ok (.ishl, 1) := by decide +kernel
theorem dX7_stormOf_47 : decode cX7_stormOf 47 = .ok (.if_icmp .ge 119, 3) := by decide +kernel
theorem dX7_stormOf_50 : decode cX7_stormOf 50 = .ok (.lconst 1, 1) := by decide +kernel
theorem dX7_stormOf_51 : decode cX7_stormOf 51 = .ok (.lstore 9, 2) := by decide +kernel
theorem dX7_stormOf_53 : decode cX7_stormOf 53 = .ok (.aload_n 0, 1) := by decide +kernel
theorem dX7_stormOf_54 : decode cX7_stormOf 54 = .ok (.invokevirtual 189, 3) := by decide +kernel
theorem dX7_stormOf_57 : decode cX7_stormOf 57 = .ok (.iconst 0, 1) := by decide +kernel
theorem dX7_stormOf_58 : decode cX7_stormOf 58 = .ok (.istore 11, 2) := by decide +kernel
theorem dX7_stormOf_60 : decode cX7_stormOf 60 = .ok (.iload 11, 2) := by decide +kernel
theorem dX7_stormOf_62 : decode cX7_stormOf 62 = .ok (.aload_n 0, 1) := by decide +kernel
theorem dX7_stormOf_63 : decode cX7_stormOf 63 = .ok (.getfield 28, 3) := by decide +kernel
theorem dX7_stormOf_66 : decode cX7_stormOf 66 = .ok (.iconst 0, 1) := by decide +kernel
theorem dX7_stormOf_67 : decode cX7_stormOf 67 = .ok (.iaload, 1) := by decide +kernel
theorem dX7_stormOf_68 : decode cX7_stormOf 68 = .ok (.if_icmp .ge 71, 3) := by decide +kernel
theorem dX7_stormOf_71 : decode cX7_stormOf 71 = .ok (.lload 9, 2) := by decide +kernel
theorem dX7_stormOf_73 : decode cX7_stormOf 73 = .ok (.iload 8, 2) := by decide +kernel
theorem dX7_stormOf_75 : decode cX7_stormOf 75 = .ok (.iload 11, 2) := by decide +kernel
theorem dX7_stormOf_77 : decode cX7_stormOf 77 = .ok (.invokestatic 139, 3) := by decide +kernel
theorem dX7_stormOf_80 : decode cX7_stormOf 80 = .ok (.ifCond .eq 18, 3) := by decide +kernel
theorem dX7_stormOf_83 : decode cX7_stormOf 83 = .ok (.aload_n 0, 1) := by decide +kernel
theorem dX7_stormOf_84 : decode cX7_stormOf 84 = .ok (.getfield 31, 3) := by decide +kernel
theorem dX7_stormOf_87 : decode cX7_stormOf 87 = .ok (.iconst 2, 1) := by decide +kernel
theorem dX7_stormOf_88 : decode cX7_stormOf 88 = .ok (.iload 11, 2) := by decide +kernel
theorem dX7_stormOf_90 : decode cX7_stormOf 90 = .ok (.imul, 1) := by decide +kernel
theorem dX7_stormOf_91 : decode cX7_stormOf 91 = .ok (.iconst 1, 1) := by decide +kernel
theorem dX7_stormOf_92 : decode cX7_stormOf 92 = .ok (.iadd, 1) := by decide +kernel
theorem dX7_stormOf_93 : decode cX7_stormOf 93 = .ok (.iaload, 1) := by decide +kernel
theorem dX7_stormOf_94 : decode cX7_stormOf 94 = .ok (.i2l, 1) := by decide +kernel
theorem dX7_stormOf_95 : decode cX7_stormOf 95 = .ok (.goto 18, 3) := by decide +kernel
theorem dX7_stormOf_98 : decode cX7_stormOf 98 = .ok (.bipush 16, 2) := by decide +kernel
theorem dX7_stormOf_100 : decode cX7_stormOf 100 = .ok (.aload_n 0, 1) := by decide +kernel
theorem dX7_stormOf_101 : decode cX7_stormOf 101 = .ok (.getfield 31, 3) := by decide +kernel
theorem dX7_stormOf_104 : decode cX7_stormOf 104 = .ok (.iconst 2, 1) := by decide +kernel
theorem dX7_stormOf_105 : decode cX7_stormOf 105 = .ok (.iload 11, 2) := by decide +kernel
theorem dX7_stormOf_107 : decode cX7_stormOf 107 = .ok (.imul, 1) := by decide +kernel
theorem dX7_stormOf_108 : decode cX7_stormOf 108 = .ok (.iconst 1, 1) := by decide +kernel
theorem dX7_stormOf_109 : decode cX7_stormOf 109 = .ok (.iadd, 1) := by decide +kernel
theorem dX7_stormOf_110 : decode cX7_stormOf 110 = .ok (.iaload, 1) := by decide +kernel
theorem dX7_stormOf_111 : decode cX7_stormOf 111 = .ok (.isub, 1) := by decide +kernel
theorem dX7_stormOf_112 : decode cX7_stormOf 112 = .ok (.i2l, 1) := by decide +kernel
theorem dX7_stormOf_113 : decode cX7_stormOf 113 = .ok (.lmul, 1) := by decide +kernel
theorem dX7_stormOf_114 : decode cX7_stormOf 114 = .ok (.lstore 9, 2) := by decide +kernel
theorem dX7_stormOf_116 : decode cX7_stormOf 116 = .ok (.iload 8, 2) := by decide +kernel
theorem dX7_stormOf_118 : decode cX7_stormOf 118 = .ok (.iload 11, 2) := by decide +kernel
theorem dX7_stormOf_120 : decode cX7_stormOf 120 = .ok (.invokestatic 139, 3) := by decide +kernel
theorem dX7_stormOf_123 : decode cX7_stormOf 123 = .ok (.ifCond .eq 10, 3) := by decide +kernel
theorem dX7_stormOf_126 : decode cX7_stormOf 126 = .ok (.aload_n 0, 1) := by decide +kernel
theorem dX7_stormOf_127 : decode cX7_stormOf 127 = .ok (.iconst 0, 1) := by decide +kernel
theorem dX7_stormOf_128 : decode cX7_stormOf 128 = .ok (.iload 11, 2) := by decide +kernel
theorem dX7_stormOf_130 : decode cX7_stormOf 130 = .ok (.invokevirtual 192, 3) := by decide +kernel
theorem dX7_stormOf_133 : decode cX7_stormOf 133 = .ok (.iinc 11 1, 3) := by decide +kernel
theorem dX7_stormOf_136 : decode cX7_stormOf 136 = .ok (.goto (-76), 3) := by decide +kernel
theorem dX7_stormOf_139 : decode cX7_stormOf 139 = .ok (.lload 4, 2) := by decide +kernel
theorem dX7_stormOf_141 : decode cX7_stormOf 141 = .ok (.aload_n 0, 1) := by decide +kernel
theorem dX7_stormOf_142 : decode cX7_stormOf 142 = .ok (.getfield 43, 3) := by decide +kernel
theorem dX7_stormOf_145 : decode cX7_stormOf 145 = .ok (.iload_n 1, 1) := by decide +kernel
theorem dX7_stormOf_146 : decode cX7_stormOf 146 = .ok (.iaload, 1) := by decide +kernel
theorem dX7_stormOf_147 : decode cX7_stormOf 147 = .ok (.iload_n 2, 1) := by decide +kernel
theorem dX7_stormOf_148 : decode cX7_stormOf 148 = .ok (.if_icmp .lt 8, 3) := by decide +kernel
theorem dX7_stormOf_151 : decode cX7_stormOf 151 = .ok (.lload 9, 2) := by decide +kernel
theorem dX7_stormOf_153 : decode cX7_stormOf 153 = .ok (.goto 4, 3) := by decide +kernel
theorem dX7_stormOf_156 : decode cX7_stormOf 156 = .ok (.lconst 0, 1) := by decide +kernel
theorem dX7_stormOf_157 : decode cX7_stormOf 157 = .ok (.ladd, 1) := by decide +kernel
theorem dX7_stormOf_158 : decode cX7_stormOf 158 = .ok (.lstore 4, 2) := by decide +kernel
theorem dX7_stormOf_160 : decode cX7_stormOf 160 = .ok (.iinc 8 1, 3) := by decide +kernel
theorem dX7_stormOf_163 : decode cX7_stormOf 163 = .ok (.goto (-126), 3) := by decide +kernel
theorem dX7_stormOf_166 : decode cX7_stormOf 166 = .ok (.lload 4, 2) := by decide +kernel
theorem dX7_stormOf_168 : decode cX7_stormOf 168 = .ok (.lload 6, 2) := by decide +kernel
theorem dX7_stormOf_170 : decode cX7_stormOf 170 = .ok (.iload_n 3, 1) := by decide +kernel
theorem dX7_stormOf_171 : decode cX7_stormOf 171 = .ok (.invokestatic 253, 3) := by decide +kernel
theorem dX7_stormOf_174 : decode cX7_stormOf 174 = .ok (.lreturn, 1) := by decide +kernel
theorem dX7_storm_0 : decode cX7_storm 0 = .ok (.aload_n 0, 1) := by decide +kernel
theorem dX7_storm_1 : decode cX7_storm 1 = .ok (.invokevirtual 124, 3) := by decide +kernel
theorem dX7_storm_4 : decode cX7_storm 4 = .ok (.aload_n 0, 1) := by decide +kernel
theorem dX7_storm_5 : decode cX7_storm 5 = .ok (.iload_n 1, 1) := by decide +kernel
theorem dX7_storm_6 : decode cX7_storm 6 = .ok (.invokevirtual 133, 3) := by decide +kernel
theorem dX7_storm_9 : decode cX7_storm 9 = .ok (.ifCond .eq 32, 3) := by decide +kernel
theorem dX7_storm_12 : decode cX7_storm 12 = .ok (.iload_n 2, 1) := by decide +kernel
theorem dX7_storm_13 : decode cX7_storm 13 = .ok (.i2l, 1) := by decide +kernel
theorem dX7_storm_14 : decode cX7_storm 14 = .ok (.lconst 0, 1) := by decide +kernel
theorem dX7_storm_15 : decode cX7_storm 15 = .ok (.ldc2_w 265, 3) := by decide +kernel
theorem dX7_storm_18 : decode cX7_storm 18 = .ok (.invokestatic 61, 3) := by decide +kernel
theorem dX7_storm_21 : decode cX7_storm 21 = .ok (.ifCond .eq 20, 3) := by decide +kernel
theorem dX7_storm_24 : decode cX7_storm 24 = .ok (.iload_n 3, 1) := by decide +kernel
theorem dX7_storm_25 : decode cX7_storm 25 = .ok (.invokestatic 130, 3) := by decide +kernel
theorem dX7_storm_28 : decode cX7_storm 28 = .ok (.ifCond .eq 13, 3) := by decide +kernel
theorem dX7_storm_31 : decode cX7_storm 31 = .ok (.aload_n 0, 1) := by decide +kernel
theorem dX7_storm_32 : decode cX7_storm 32 = .ok (.iload_n 1, 1) := by decide +kernel
theorem dX7_storm_33 : decode cX7_storm 33 = .ok (.iload_n 2, 1) := by decide +kernel
theorem dX7_storm_34 : decode cX7_storm 34 = .ok (.iload_n 3, 1) := by decide +kernel
theorem dX7_storm_35 : decode cX7_storm 35 = .ok (.invokevirtual 267, 3) := by decide +kernel
theorem dX7_storm_38 : decode cX7_storm 38 = .ok (.goto 8, 3) := by decide +kernel
theorem dX7_storm_41 : decode cX7_storm 41 = .ok (.bipush (-2), 2) := by decide +kernel
theorem dX7_storm_43 : decode cX7_storm 43 = .ok (.invokestatic 261, 3) := by decide +kernel
theorem dX7_storm_46 : decode cX7_storm 46 = .ok (.lreturn, 1) := by decide +kernel
theorem dX7_lot_0 : decode cX7_lot 0 = .ok (.aload_n 0, 1) := by decide +kernel
theorem dX7_lot_1 : decode cX7_lot 1 = .ok (.ldc_w 271, 3) := by decide +kernel
theorem dX7_lot_4 : decode cX7_lot 4 = .ok (.aload_n 0, 1) := by decide +kernel
theorem dX7_lot_5 : decode cX7_lot 5 = .ok (.getfield 272, 3) := by decide +kernel
theorem dX7_lot_8 : decode cX7_lot 8 = .ok (.imul, 1) := by decide +kernel
theorem dX7_lot_9 : decode cX7_lot 9 = .ok (.sipush 12345, 3) := by decide +kernel
theorem dX7_lot_12 : decode cX7_lot 12 = .ok (.iadd, 1) := by decide +kernel
theorem dX7_lot_13 : decode cX7_lot 13 = .ok (.putfield 272, 3) := by decide +kernel
theorem dX7_lot_16 : decode cX7_lot 16 = .ok (.aload_n 0, 1) := by decide +kernel
theorem dX7_lot_17 : decode cX7_lot 17 = .ok (.getfield 272, 3) := by decide +kernel
theorem dX7_lot_20 : decode cX7_lot 20 = .ok (.bipush 16, 2) := by decide +kernel
theorem dX7_lot_22 : decode cX7_lot 22 = .ok (.iushr, 1) := by decide +kernel
theorem dX7_lot_23 : decode cX7_lot 23 = .ok (.iload_n 1, 1) := by decide +kernel
theorem dX7_lot_24 : decode cX7_lot 24 = .ok (.irem, 1) := by decide +kernel
theorem dX7_lot_25 : decode cX7_lot 25 = .ok (.ireturn, 1) := by decide +kernel
theorem dX7_yearsOf_0 : decode cX7_yearsOf 0 = .ok (.aload_n 0, 1) := by decide +kernel
theorem dX7_yearsOf_1 : decode cX7_yearsOf 1 = .ok (.iload_n 1, 1) := by decide +kernel
theorem dX7_yearsOf_2 : decode cX7_yearsOf 2 = .ok (.putfield 272, 3) := by decide +kernel
theorem dX7_yearsOf_5 : decode cX7_yearsOf 5 = .ok (.aload_n 0, 1) := by decide +kernel
theorem dX7_yearsOf_6 : decode cX7_yearsOf 6 = .ok (.invokevirtual 189, 3) := by decide +kernel
theorem dX7_yearsOf_9 : decode cX7_yearsOf 9 = .ok (.iconst 0, 1) := by decide +kernel
theorem dX7_yearsOf_10 : decode cX7_yearsOf 10 = .ok (.istore 5, 2) := by decide +kernel
theorem dX7_yearsOf_12 : decode cX7_yearsOf 12 = .ok (.iload 5, 2) := by decide +kernel
theorem dX7_yearsOf_14 : decode cX7_yearsOf 14 = .ok (.iload_n 2, 1) := by decide +kernel
theorem dX7_yearsOf_15 : decode cX7_yearsOf 15 = .ok (.if_icmp .ge 69, 3) := by decide +kernel
theorem dX7_yearsOf_18 : decode cX7_yearsOf 18 = .ok (.iconst 0, 1) := by decide +kernel
theorem dX7_yearsOf_19 : decode cX7_yearsOf 19 = .ok (.istore 6, 2) := by decide +kernel
theorem dX7_yearsOf_21 : decode cX7_yearsOf 21 = .ok (.iload 6, 2) := by decide +kernel
theorem dX7_yearsOf_23 : decode cX7_yearsOf 23 = .ok (.aload_n 0, 1) := by decide +kernel
theorem dX7_yearsOf_24 : decode cX7_yearsOf 24 = .ok (.getfield 28, 3) := by decide +kernel
theorem dX7_yearsOf_27 : decode cX7_yearsOf 27 = .ok (.iconst 0, 1) := by decide +kernel
theorem dX7_yearsOf_28 : decode cX7_yearsOf 28 = .ok (.iaload, 1) := by decide +kernel
theorem dX7_yearsOf_29 : decode cX7_yearsOf 29 = .ok (.if_icmp .ge 49, 3) := by decide +kernel
theorem dX7_yearsOf_32 : decode cX7_yearsOf 32 = .ok (.aload_n 0, 1) := by decide +kernel
theorem dX7_yearsOf_33 : decode cX7_yearsOf 33 = .ok (.getfield 177, 3) := by decide +kernel
theorem dX7_yearsOf_36 : decode cX7_yearsOf 36 = .ok (.iload 6, 2) := by decide +kernel
theorem dX7_yearsOf_38 : decode cX7_yearsOf 38 = .ok (.invokestatic 139, 3) := by decide +kernel
theorem dX7_yearsOf_41 : decode cX7_yearsOf 41 = .ok (.ifCond .ne 31, 3) := by decide +kernel
theorem dX7_yearsOf_44 : decode cX7_yearsOf 44 = .ok (.aload_n 0, 1) := by decide +kernel
theorem dX7_yearsOf_45 : decode cX7_yearsOf 45 = .ok (.bipush 16, 2) := by decide +kernel
theorem dX7_yearsOf_47 : decode cX7_yearsOf 47 = .ok (.invokevirtual 275, 3) := by decide +kernel
theorem dX7_yearsOf_50 : decode cX7_yearsOf 50 = .ok (.aload_n 0, 1) := by decide +kernel
theorem dX7_yearsOf_51 : decode cX7_yearsOf 51 = .ok (.getfield 31, 3) := by decide +kernel
theorem dX7_yearsOf_54 : decode cX7_yearsOf 54 = .ok (.iconst 2, 1) := by decide +kernel
theorem dX7_yearsOf_55 : decode cX7_yearsOf 55 = .ok (.iload 6, 2) := by decide +kernel
theorem dX7_yearsOf_57 : decode cX7_yearsOf 57 = .ok (.imul, 1) := by decide +kernel
theorem dX7_yearsOf_58 : decode cX7_yearsOf 58 = .ok (.iconst 1, 1) := by decide +kernel
theorem dX7_yearsOf_59 : decode cX7_yearsOf 59 = .ok (.iadd, 1) := by decide +kernel
theorem dX7_yearsOf_60 : decode cX7_yearsOf 60 = .ok (.iaload, 1) := by decide +kernel
theorem dX7_yearsOf_61 : decode cX7_yearsOf 61 = .ok (.if_icmp .ge 11, 3) := by decide +kernel
theorem dX7_yearsOf_64 : decode cX7_yearsOf 64 = .ok (.aload_n 0, 1) := by decide +kernel
theorem dX7_yearsOf_65 : decode cX7_yearsOf 65 = .ok (.iload 5, 2) := by decide +kernel
theorem dX7_yearsOf_67 : decode cX7_yearsOf 67 = .ok (.iload 6, 2) := by decide +kernel
theorem dX7_yearsOf_69 : decode cX7_yearsOf 69 = .ok (.invokevirtual 192, 3) := by decide +kernel
theorem dX7_yearsOf_72 : decode cX7_yearsOf 72 = .ok (.iinc 6 1, 3) := by decide +kernel
theorem dX7_yearsOf_75 : decode cX7_yearsOf 75 = .ok (.goto (-54), 3) := by decide +kernel
theorem dX7_yearsOf_78 : decode cX7_yearsOf 78 = .ok (.iinc 5 1, 3) := by decide +kernel
theorem dX7_yearsOf_81 : decode cX7_yearsOf 81 = .ok (.goto (-69), 3) := by decide +kernel
theorem dX7_yearsOf_84 : decode cX7_yearsOf 84 = .ok (.iload 4, 2) := by decide +kernel
theorem dX7_yearsOf_86 : decode cX7_yearsOf 86 = .ok (.ifCond .ne 12, 3) := by decide +kernel
theorem dX7_yearsOf_89 : decode cX7_yearsOf 89 = .ok (.aload_n 0, 1) := by decide +kernel
theorem dX7_yearsOf_90 : decode cX7_yearsOf 90 = .ok (.getfield 43, 3) := by decide +kernel
theorem dX7_yearsOf_93 : decode cX7_yearsOf 93 = .ok (.iload_n 3, 1) := by decide +kernel
theorem dX7_yearsOf_94 : decode cX7_yearsOf 94 = .ok (.iaload, 1) := by decide +kernel
theorem dX7_yearsOf_95 : decode cX7_yearsOf 95 = .ok (.goto 10, 3) := by decide +kernel
theorem dX7_yearsOf_98 : decode cX7_yearsOf 98 = .ok (.aload_n 0, 1) := by decide +kernel
theorem dX7_yearsOf_99 : decode cX7_yearsOf 99 = .ok (.getfield 177, 3) := by decide +kernel
theorem dX7_yearsOf_102 : decode cX7_yearsOf 102 = .ok (.invokestatic 222, 3) := by decide +kernel
theorem dX7_yearsOf_105 : decode cX7_yearsOf 105 = .ok (.ireturn, 1) := by decide +kernel
theorem dX7_years_0 : decode cX7_years 0 = .ok (.aload_n 0, 1) := by decide +kernel
theorem dX7_years_1 : decode cX7_years 1 = .ok (.invokevirtual 124, 3) := by decide +kernel
theorem dX7_years_4 : decode cX7_years 4 = .ok (.iload_n 2, 1) := by decide +kernel
theorem dX7_years_5 : decode cX7_years 5 = .ok (.i2l, 1) := by decide +kernel
theorem dX7_years_6 : decode cX7_years 6 = .ok (.lconst 1, 1) := by decide +kernel
theorem dX7_years_7 : decode cX7_years 7 = .ok (.ldc2_w 278, 3) := by decide +kernel
theorem dX7_years_10 : decode cX7_years 10 = .ok (.invokestatic 61, 3) := by decide +kernel
theorem dX7_years_13 : decode cX7_years 13 = .ok (.ifCond .eq 31, 3) := by decide +kernel
theorem dX7_years_16 : decode cX7_years 16 = .ok (.aload_n 0, 1) := by decide +kernel
theorem dX7_years_17 : decode cX7_years 17 = .ok (.iload_n 3, 1) := by decide +kernel
theorem dX7_years_18 : decode cX7_years 18 = .ok (.invokevirtual 133, 3) := by decide +kernel
theorem dX7_years_21 : decode cX7_years 21 = .ok (.ifCond .eq 23, 3) := by decide +kernel
theorem dX7_years_24 : decode cX7_years 24 = .ok (.iload 4, 2) := by decide +kernel
theorem dX7_years_26 : decode cX7_years 26 = .ok (.invokestatic 130, 3) := by decide +kernel
theorem dX7_years_29 : decode cX7_years 29 = .ok (.ifCond .eq 15, 3) := by decide +kernel
theorem dX7_years_32 : decode cX7_years 32 = .ok (.aload_n 0, 1) := by decide +kernel
theorem dX7_years_33 : decode cX7_years 33 = .ok (.iload_n 1, 1) := by decide +kernel
theorem dX7_years_34 : decode cX7_years 34 = .ok (.iload_n 2, 1) := by decide +kernel
theorem dX7_years_35 : decode cX7_years 35 = .ok (.iload_n 3, 1) := by decide +kernel
theorem dX7_years_36 : decode cX7_years 36 = .ok (.iload 4, 2) := by decide +kernel
theorem dX7_years_38 : decode cX7_years 38 = .ok (.invokevirtual 280, 3) := by decide +kernel
theorem dX7_years_41 : decode cX7_years 41 = .ok (.goto 5, 3) := by decide +kernel
theorem dX7_years_44 : decode cX7_years 44 = .ok (.bipush (-2), 2) := by decide +kernel
theorem dX7_years_46 : decode cX7_years 46 = .ok (.ireturn, 1) := by decide +kernel
theorem dX7_write_0 : decode cX7_write 0 = .ok (.iload_n 1, 1) := by decide +kernel
theorem dX7_write_1 : decode cX7_write 1 = .ok (.invokestatic 164, 3) := by decide +kernel
theorem dX7_write_4 : decode cX7_write 4 = .ok (.ifCond .eq 10, 3) := by decide +kernel
theorem dX7_write_7 : decode cX7_write 7 = .ok (.iload_n 2, 1) := by decide +kernel
theorem dX7_write_8 : decode cX7_write 8 = .ok (.invokestatic 70, 3) := by decide +kernel
theorem dX7_write_11 : decode cX7_write 11 = .ok (.ifCond .ne 6, 3) := by decide +kernel
theorem dX7_write_14 : decode cX7_write 14 = .ok (.bipush (-2), 2) := by decide +kernel
theorem dX7_write_16 : decode cX7_write 16 = .ok (.ireturn, 1) := by decide +kernel
theorem dX7_write_17 : decode cX7_write 17 = .ok (.aload_n 0, 1) := by decide +kernel
theorem dX7_write_18 : decode cX7_write 18 = .ok (.getfield 7, 3) := by decide +kernel
theorem dX7_write_21 : decode cX7_write 21 = .ok (.iload_n 2, 1) := by decide +kernel
theorem dX7_write_22 : decode cX7_write 22 = .ok (.iaload, 1) := by decide +kernel
theorem dX7_write_23 : decode cX7_write 23 = .ok (.ifCond .ge 9, 3) := by decide +kernel
theorem dX7_write_26 : decode cX7_write 26 = .ok (.aload_n 0, 1) := by decide +kernel
theorem dX7_write_27 : decode cX7_write 27 = .ok (.iconst 1, 1) := by decide +kernel
theorem dX7_write_28 : decode cX7_write 28 = .ok (.invokevirtual 76, 3) := by decide +kernel
theorem dX7_write_31 : decode cX7_write 31 = .ok (.ireturn, 1) := by decide +kernel
theorem dX7_write_32 : decode cX7_write 32 = .ok (.aload_n 0, 1) := by decide +kernel
theorem dX7_write_33 : decode cX7_write 33 = .ok (.invokevirtual 124, 3) := by decide +kernel
theorem dX7_write_36 : decode cX7_write 36 = .ok (.aload_n 0, 1) := by decide +kernel
theorem dX7_write_37 : decode cX7_write 37 = .ok (.iload_n 1, 1) := by decide +kernel
theorem dX7_write_38 : decode cX7_write 38 = .ok (.invokevirtual 196, 3) := by decide +kernel
theorem dX7_write_41 : decode cX7_write 41 = .ok (.aload_n 0, 1) := by decide +kernel
theorem dX7_write_42 : decode cX7_write 42 = .ok (.getfield 13, 3) := by decide +kernel
theorem dX7_write_45 : decode cX7_write 45 = .ok (.iload_n 2, 1) := by decide +kernel
theorem dX7_write_46 : decode cX7_write 46 = .ok (.iaload, 1) := by decide +kernel
theorem dX7_write_47 : decode cX7_write 47 = .ok (.aload_n 0, 1) := by decide +kernel
theorem dX7_write_48 : decode cX7_write 48 = .ok (.getfield 28, 3) := by decide +kernel
theorem dX7_write_51 : decode cX7_write 51 = .ok (.iconst 1, 1) := by decide +kernel
theorem dX7_write_52 : decode cX7_write 52 = .ok (.iaload, 1) := by decide +kernel
theorem dX7_write_53 : decode cX7_write 53 = .ok (.invokestatic 186, 3) := by decide +kernel
theorem dX7_write_56 : decode cX7_write 56 = .ok (.istore_n 3, 1) := by decide +kernel
theorem dX7_write_57 : decode cX7_write 57 = .ok (.iconst 0, 1) := by decide +kernel
theorem dX7_write_58 : decode cX7_write 58 = .ok (.istore 4, 2) := by decide +kernel
theorem dX7_write_60 : decode cX7_write 60 = .ok (.iload 4, 2) := by decide +kernel
theorem dX7_write_62 : decode cX7_write 62 = .ok (.iload_n 3, 1) := by decide +kernel
theorem dX7_write_63 : decode cX7_write 63 = .ok (.if_icmp .ge 37, 3) := by decide +kernel
theorem dX7_write_66 : decode cX7_write 66 = .ok (.aload_n 0, 1) := by decide +kernel
theorem dX7_write_67 : decode cX7_write 67 = .ok (.getfield 16, 3) := by decide +kernel
theorem dX7_write_70 : decode cX7_write 70 = .ok (.bipush 60, 2) := by decide +kernel
theorem dX7_write_72 : decode cX7_write 72 = .ok (.iload_n 2, 1) := by decide +kernel
theorem dX7_write_73 : decode cX7_write 73 = .ok (.imul, 1) := by decide +kernel
theorem dX7_write_74 : decode cX7_write 74 = .ok (.iload 4, 2) := by decide +kernel
theorem dX7_write_76 : decode cX7_write 76 = .ok (.iadd, 1) := by decide +kernel
theorem dX7_write_77 : decode cX7_write 77 = .ok (.aload_n 0, 1) := by decide +kernel
theorem dX7_write_78 : decode cX7_write 78 = .ok (.getfield 7, 3) := by decide +kernel
theorem dX7_write_81 : decode cX7_write 81 = .ok (.iload_n 2, 1) := by decide +kernel
theorem dX7_write_82 : decode cX7_write 82 = .ok (.iaload, 1) := by decide +kernel
theorem dX7_write_83 : decode cX7_write 83 = .ok (.aload_n 0, 1) := by decide +kernel
theorem dX7_write_84 : decode cX7_write 84 = .ok (.getfield 43, 3) := by decide +kernel
theorem dX7_write_87 : decode cX7_write 87 = .ok (.iload 4, 2) := by decide +kernel
theorem dX7_write_89 : decode cX7_write 89 = .ok (.iaload, 1) := by decide +kernel
theorem dX7_write_90 : decode cX7_write 90 = .ok (.invokestatic 84, 3) := by decide +kernel
theorem dX7_write_93 : decode cX7_write 93 = .ok (.iastore, 1) := by decide +kernel
theorem dX7_write_94 : decode cX7_write 94 = .ok (.iinc 4 1, 3) := by decide +kernel
theorem dX7_write_97 : decode cX7_write 97 = .ok (.goto (-37), 3) := by decide +kernel
theorem dX7_write_100 : decode cX7_write 100 = .ok (.iload_n 3, 1) := by decide +kernel
theorem dX7_write_101 : decode cX7_write 101 = .ok (.ireturn, 1) := by decide +kernel
theorem dX7_count_0 : decode cX7_count 0 = .ok (.aload_n 0, 1) := by decide +kernel
theorem dX7_count_1 : decode cX7_count 1 = .ok (.invokevirtual 124, 3) := by decide +kernel
theorem dX7_count_4 : decode cX7_count 4 = .ok (.iload_n 1, 1) := by decide +kernel
theorem dX7_count_5 : decode cX7_count 5 = .ok (.tableswitch 82 0 8 #[51, 51, 51, 58, 58, 58, 67, 72, 77], 51) := by decide +kernel
theorem dX7_count_56 : decode cX7_count 56 = .ok (.aload_n 0, 1) := by decide +kernel
theorem dX7_count_57 : decode cX7_count 57 = .ok (.getfield 28, 3) := by decide +kernel
theorem dX7_count_60 : decode cX7_count 60 = .ok (.iload_n 1, 1) := by decide +kernel
theorem dX7_count_61 : decode cX7_count 61 = .ok (.iaload, 1) := by decide +kernel
theorem dX7_count_62 : decode cX7_count 62 = .ok (.ireturn, 1) := by decide +kernel
theorem dX7_count_63 : decode cX7_count 63 = .ok (.aload_n 0, 1) := by decide +kernel
theorem dX7_count_64 : decode cX7_count 64 = .ok (.getfield 25, 3) := by decide +kernel
theorem dX7_count_67 : decode cX7_count 67 = .ok (.iload_n 1, 1) := by decide +kernel
theorem dX7_count_68 : decode cX7_count 68 = .ok (.iconst 3, 1) := by decide +kernel
theorem dX7_count_69 : decode cX7_count 69 = .ok (.isub, 1) := by decide +kernel
theorem dX7_count_70 : decode cX7_count 70 = .ok (.iaload, 1) := by decide +kernel
theorem dX7_count_71 : decode cX7_count 71 = .ok (.ireturn, 1) := by decide +kernel
theorem dX7_count_72 : decode cX7_count 72 = .ok (.aload_n 0, 1) := by decide +kernel
theorem dX7_count_73 : decode cX7_count 73 = .ok (.getfield 169, 3) := by decide +kernel
theorem dX7_count_76 : decode cX7_count 76 = .ok (.ireturn, 1) := by decide +kernel
theorem dX7_count_77 : decode cX7_count 77 = .ok (.aload_n 0, 1) := by decide +kernel
theorem dX7_count_78 : decode cX7_count 78 = .ok (.getfield 236, 3) := by decide +kernel
theorem dX7_count_81 : decode cX7_count 81 = .ok (.ireturn, 1) := by decide +kernel
theorem dX7_count_82 : decode cX7_count 82 = .ok (.aload_n 0, 1) := by decide +kernel
theorem dX7_count_83 : decode cX7_count 83 = .ok (.getfield 65, 3) := by decide +kernel
theorem dX7_count_86 : decode cX7_count 86 = .ok (.ireturn, 1) := by decide +kernel
theorem dX7_count_87 : decode cX7_count 87 = .ok (.bipush (-2), 2) := by decide +kernel
theorem dX7_count_89 : decode cX7_count 89 = .ok (.ireturn, 1) := by decide +kernel
theorem dX7_tellsShip_0 : decode cX7_tellsShip 0 = .ok (.ldc2_w 284, 3) := by decide +kernel
theorem dX7_tellsShip_3 : decode cX7_tellsShip 3 = .ok (.lload_n 1, 1) := by decide +kernel
theorem dX7_tellsShip_4 : decode cX7_tellsShip 4 = .ok (.lmul, 1) := by decide +kernel
theorem dX7_tellsShip_5 : decode cX7_tellsShip 5 = .ok (.aload_n 0, 1) := by decide +kernel
theorem dX7_tellsShip_6 : decode cX7_tellsShip 6 = .ok (.getfield 31, 3) := by decide +kernel
theorem dX7_tellsShip_9 : decode cX7_tellsShip 9 = .ok (.iconst 2, 1) := by decide +kernel
theorem dX7_tellsShip_10 : decode cX7_tellsShip 10 = .ok (.iload_n 3, 1) := by decide +kernel
theorem dX7_tellsShip_11 : decode cX7_tellsShip 11 = .ok (.imul, 1) := by decide +kernel
theorem dX7_tellsShip_12 : decode cX7_tellsShip 12 = .ok (.iaload, 1) := by decide +kernel
theorem dX7_tellsShip_13 : decode cX7_tellsShip 13 = .ok (.i2l, 1) := by decide +kernel
end
section
theorem dX7_tellsShip_14 : decode cX7_tellsShip 14 = .ok (.ladd, 1) := by decide +kernel
theorem dX7_tellsShip_15 : decode cX7_tellsShip 15 = .ok (.lstore 4, 2) := by decide +kernel
theorem dX7_tellsShip_17 : decode cX7_tellsShip 17 = .ok (.ldc2_w 284, 3) := by decide +kernel
theorem dX7_tellsShip_20 : decode cX7_tellsShip 20 = .ok (.lload 4, 2) := by decide +kernel
theorem dX7_tellsShip_22 : decode cX7_tellsShip 22 = .ok (.lmul, 1) := by decide +kernel
theorem dX7_tellsShip_23 : decode cX7_tellsShip 23 = .ok (.aload_n 0, 1) := by decide +kernel
theorem dX7_tellsShip_24 : decode cX7_tellsShip 24 = .ok (.getfield 31, 3) := by decide +kernel
theorem dX7_tellsShip_27 : decode cX7_tellsShip 27 = .ok (.iconst 2, 1) := by decide +kernel
theorem dX7_tellsShip_28 : decode cX7_tellsShip 28 = .ok (.iload_n 3, 1) := by decide +kernel
theorem dX7_tellsShip_29 : decode cX7_tellsShip 29 = .ok (.imul, 1) := by decide +kernel
theorem dX7_tellsShip_30 : decode cX7_tellsShip 30 = .ok (.iconst 1, 1) := by decide +kernel
theorem dX7_tellsShip_31 : decode cX7_tellsShip 31 = .ok (.iadd, 1) := by decide +kernel
theorem dX7_tellsShip_32 : decode cX7_tellsShip 32 = .ok (.iaload, 1) := by decide +kernel
theorem dX7_tellsShip_33 : decode cX7_tellsShip 33 = .ok (.i2l, 1) := by decide +kernel
theorem dX7_tellsShip_34 : decode cX7_tellsShip 34 = .ok (.ladd, 1) := by decide +kernel
theorem dX7_tellsShip_35 : decode cX7_tellsShip 35 = .ok (.lstore 4, 2) := by decide +kernel
theorem dX7_tellsShip_37 : decode cX7_tellsShip 37 = .ok (.ldc2_w 284, 3) := by decide +kernel
theorem dX7_tellsShip_40 : decode cX7_tellsShip 40 = .ok (.lload 4, 2) := by decide +kernel
theorem dX7_tellsShip_42 : decode cX7_tellsShip 42 = .ok (.lmul, 1) := by decide +kernel
theorem dX7_tellsShip_43 : decode cX7_tellsShip 43 = .ok (.aload_n 0, 1) := by decide +kernel
theorem dX7_tellsShip_44 : decode cX7_tellsShip 44 = .ok (.iload_n 3, 1) := by decide +kernel
theorem dX7_tellsShip_45 : decode cX7_tellsShip 45 = .ok (.iconst (-1), 1) := by decide +kernel
theorem dX7_tellsShip_46 : decode cX7_tellsShip 46 = .ok (.invokevirtual 161, 3) := by decide +kernel
theorem dX7_tellsShip_49 : decode cX7_tellsShip 49 = .ok (.i2l, 1) := by decide +kernel
theorem dX7_tellsShip_50 : decode cX7_tellsShip 50 = .ok (.ladd, 1) := by decide +kernel
theorem dX7_tellsShip_51 : decode cX7_tellsShip 51 = .ok (.lstore 4, 2) := by decide +kernel
theorem dX7_tellsShip_53 : decode cX7_tellsShip 53 = .ok (.ldc2_w 284, 3) := by decide +kernel
theorem dX7_tellsShip_56 : decode cX7_tellsShip 56 = .ok (.lload 4, 2) := by decide +kernel
theorem dX7_tellsShip_58 : decode cX7_tellsShip 58 = .ok (.lmul, 1) := by decide +kernel
theorem dX7_tellsShip_59 : decode cX7_tellsShip 59 = .ok (.aload_n 0, 1) := by decide +kernel
theorem dX7_tellsShip_60 : decode cX7_tellsShip 60 = .ok (.iload_n 3, 1) := by decide +kernel
theorem dX7_tellsShip_61 : decode cX7_tellsShip 61 = .ok (.iconst 0, 1) := by decide +kernel
theorem dX7_tellsShip_62 : decode cX7_tellsShip 62 = .ok (.invokevirtual 286, 3) := by decide +kernel
theorem dX7_tellsShip_65 : decode cX7_tellsShip 65 = .ok (.i2l, 1) := by decide +kernel
theorem dX7_tellsShip_66 : decode cX7_tellsShip 66 = .ok (.ladd, 1) := by decide +kernel
theorem dX7_tellsShip_67 : decode cX7_tellsShip 67 = .ok (.lstore 4, 2) := by decide +kernel
theorem dX7_tellsShip_69 : decode cX7_tellsShip 69 = .ok (.ldc2_w 284, 3) := by decide +kernel
theorem dX7_tellsShip_72 : decode cX7_tellsShip 72 = .ok (.lload 4, 2) := by decide +kernel
theorem dX7_tellsShip_74 : decode cX7_tellsShip 74 = .ok (.lmul, 1) := by decide +kernel
theorem dX7_tellsShip_75 : decode cX7_tellsShip 75 = .ok (.aload_n 0, 1) := by decide +kernel
theorem dX7_tellsShip_76 : decode cX7_tellsShip 76 = .ok (.bipush 9, 2) := by decide +kernel
theorem dX7_tellsShip_78 : decode cX7_tellsShip 78 = .ok (.iload_n 3, 1) := by decide +kernel
theorem dX7_tellsShip_79 : decode cX7_tellsShip 79 = .ok (.invokevirtual 206, 3) := by decide +kernel
theorem dX7_tellsShip_82 : decode cX7_tellsShip 82 = .ok (.i2l, 1) := by decide +kernel
theorem dX7_tellsShip_83 : decode cX7_tellsShip 83 = .ok (.ladd, 1) := by decide +kernel
theorem dX7_tellsShip_84 : decode cX7_tellsShip 84 = .ok (.lstore 4, 2) := by decide +kernel
theorem dX7_tellsShip_86 : decode cX7_tellsShip 86 = .ok (.ldc2_w 284, 3) := by decide +kernel
theorem dX7_tellsShip_89 : decode cX7_tellsShip 89 = .ok (.lload 4, 2) := by decide +kernel
theorem dX7_tellsShip_91 : decode cX7_tellsShip 91 = .ok (.lmul, 1) := by decide +kernel
theorem dX7_tellsShip_92 : decode cX7_tellsShip 92 = .ok (.aload_n 0, 1) := by decide +kernel
theorem dX7_tellsShip_93 : decode cX7_tellsShip 93 = .ok (.iload_n 3, 1) := by decide +kernel
theorem dX7_tellsShip_94 : decode cX7_tellsShip 94 = .ok (.invokevirtual 225, 3) := by decide +kernel
theorem dX7_tellsShip_97 : decode cX7_tellsShip 97 = .ok (.i2l, 1) := by decide +kernel
theorem dX7_tellsShip_98 : decode cX7_tellsShip 98 = .ok (.ladd, 1) := by decide +kernel
theorem dX7_tellsShip_99 : decode cX7_tellsShip 99 = .ok (.lreturn, 1) := by decide +kernel
theorem dX7_tellsName_0 : decode cX7_tellsName 0 = .ok (.lload_n 1, 1) := by decide +kernel
theorem dX7_tellsName_1 : decode cX7_tellsName 1 = .ok (.lstore 4, 2) := by decide +kernel
theorem dX7_tellsName_3 : decode cX7_tellsName 3 = .ok (.iconst 0, 1) := by decide +kernel
theorem dX7_tellsName_4 : decode cX7_tellsName 4 = .ok (.istore 6, 2) := by decide +kernel
theorem dX7_tellsName_6 : decode cX7_tellsName 6 = .ok (.iload 6, 2) := by decide +kernel
theorem dX7_tellsName_8 : decode cX7_tellsName 8 = .ok (.iconst 3, 1) := by decide +kernel
theorem dX7_tellsName_9 : decode cX7_tellsName 9 = .ok (.if_icmp .ge 30, 3) := by decide +kernel
theorem dX7_tellsName_12 : decode cX7_tellsName 12 = .ok (.ldc2_w 284, 3) := by decide +kernel
theorem dX7_tellsName_15 : decode cX7_tellsName 15 = .ok (.lload 4, 2) := by decide +kernel
theorem dX7_tellsName_17 : decode cX7_tellsName 17 = .ok (.lmul, 1) := by decide +kernel
theorem dX7_tellsName_18 : decode cX7_tellsName 18 = .ok (.aload_n 0, 1) := by decide +kernel
theorem dX7_tellsName_19 : decode cX7_tellsName 19 = .ok (.getfield 34, 3) := by decide +kernel
theorem dX7_tellsName_22 : decode cX7_tellsName 22 = .ok (.iconst 3, 1) := by decide +kernel
theorem dX7_tellsName_23 : decode cX7_tellsName 23 = .ok (.iload_n 3, 1) := by decide +kernel
theorem dX7_tellsName_24 : decode cX7_tellsName 24 = .ok (.imul, 1) := by decide +kernel
theorem dX7_tellsName_25 : decode cX7_tellsName 25 = .ok (.iload 6, 2) := by decide +kernel
theorem dX7_tellsName_27 : decode cX7_tellsName 27 = .ok (.iadd, 1) := by decide +kernel
theorem dX7_tellsName_28 : decode cX7_tellsName 28 = .ok (.iaload, 1) := by decide +kernel
theorem dX7_tellsName_29 : decode cX7_tellsName 29 = .ok (.i2l, 1) := by decide +kernel
theorem dX7_tellsName_30 : decode cX7_tellsName 30 = .ok (.ladd, 1) := by decide +kernel
theorem dX7_tellsName_31 : decode cX7_tellsName 31 = .ok (.lstore 4, 2) := by decide +kernel
theorem dX7_tellsName_33 : decode cX7_tellsName 33 = .ok (.iinc 6 1, 3) := by decide +kernel
theorem dX7_tellsName_36 : decode cX7_tellsName 36 = .ok (.goto (-30), 3) := by decide +kernel
theorem dX7_tellsName_39 : decode cX7_tellsName 39 = .ok (.iconst 0, 1) := by decide +kernel
theorem dX7_tellsName_40 : decode cX7_tellsName 40 = .ok (.istore 6, 2) := by decide +kernel
theorem dX7_tellsName_42 : decode cX7_tellsName 42 = .ok (.iload 6, 2) := by decide +kernel
theorem dX7_tellsName_44 : decode cX7_tellsName 44 = .ok (.iconst 3, 1) := by decide +kernel
theorem dX7_tellsName_45 : decode cX7_tellsName 45 = .ok (.if_icmp .ge 26, 3) := by decide +kernel
theorem dX7_tellsName_48 : decode cX7_tellsName 48 = .ok (.ldc2_w 284, 3) := by decide +kernel
theorem dX7_tellsName_51 : decode cX7_tellsName 51 = .ok (.lload 4, 2) := by decide +kernel
theorem dX7_tellsName_53 : decode cX7_tellsName 53 = .ok (.lmul, 1) := by decide +kernel
theorem dX7_tellsName_54 : decode cX7_tellsName 54 = .ok (.aload_n 0, 1) := by decide +kernel
theorem dX7_tellsName_55 : decode cX7_tellsName 55 = .ok (.iload_n 3, 1) := by decide +kernel
theorem dX7_tellsName_56 : decode cX7_tellsName 56 = .ok (.iload 6, 2) := by decide +kernel
theorem dX7_tellsName_58 : decode cX7_tellsName 58 = .ok (.invokevirtual 158, 3) := by decide +kernel
theorem dX7_tellsName_61 : decode cX7_tellsName 61 = .ok (.i2l, 1) := by decide +kernel
theorem dX7_tellsName_62 : decode cX7_tellsName 62 = .ok (.ladd, 1) := by decide +kernel
theorem dX7_tellsName_63 : decode cX7_tellsName 63 = .ok (.lstore 4, 2) := by decide +kernel
theorem dX7_tellsName_65 : decode cX7_tellsName 65 = .ok (.iinc 6 1, 3) := by decide +kernel
theorem dX7_tellsName_68 : decode cX7_tellsName 68 = .ok (.goto (-26), 3) := by decide +kernel
theorem dX7_tellsName_71 : decode cX7_tellsName 71 = .ok (.ldc2_w 284, 3) := by decide +kernel
theorem dX7_tellsName_74 : decode cX7_tellsName 74 = .ok (.lload 4, 2) := by decide +kernel
theorem dX7_tellsName_76 : decode cX7_tellsName 76 = .ok (.lmul, 1) := by decide +kernel
theorem dX7_tellsName_77 : decode cX7_tellsName 77 = .ok (.aload_n 0, 1) := by decide +kernel
theorem dX7_tellsName_78 : decode cX7_tellsName 78 = .ok (.bipush 9, 2) := by decide +kernel
theorem dX7_tellsName_80 : decode cX7_tellsName 80 = .ok (.iload_n 3, 1) := by decide +kernel
theorem dX7_tellsName_81 : decode cX7_tellsName 81 = .ok (.invokevirtual 200, 3) := by decide +kernel
theorem dX7_tellsName_84 : decode cX7_tellsName 84 = .ok (.i2l, 1) := by decide +kernel
theorem dX7_tellsName_85 : decode cX7_tellsName 85 = .ok (.ladd, 1) := by decide +kernel
theorem dX7_tellsName_86 : decode cX7_tellsName 86 = .ok (.lstore 4, 2) := by decide +kernel
theorem dX7_tellsName_88 : decode cX7_tellsName 88 = .ok (.ldc2_w 284, 3) := by decide +kernel
theorem dX7_tellsName_91 : decode cX7_tellsName 91 = .ok (.lload 4, 2) := by decide +kernel
theorem dX7_tellsName_93 : decode cX7_tellsName 93 = .ok (.lmul, 1) := by decide +kernel
theorem dX7_tellsName_94 : decode cX7_tellsName 94 = .ok (.aload_n 0, 1) := by decide +kernel
theorem dX7_tellsName_95 : decode cX7_tellsName 95 = .ok (.iconst 0, 1) := by decide +kernel
theorem dX7_tellsName_96 : decode cX7_tellsName 96 = .ok (.iload_n 3, 1) := by decide +kernel
theorem dX7_tellsName_97 : decode cX7_tellsName 97 = .ok (.invokevirtual 289, 3) := by decide +kernel
theorem dX7_tellsName_100 : decode cX7_tellsName 100 = .ok (.i2l, 1) := by decide +kernel
theorem dX7_tellsName_101 : decode cX7_tellsName 101 = .ok (.ladd, 1) := by decide +kernel
theorem dX7_tellsName_102 : decode cX7_tellsName 102 = .ok (.lstore 4, 2) := by decide +kernel
theorem dX7_tellsName_104 : decode cX7_tellsName 104 = .ok (.ldc2_w 284, 3) := by decide +kernel
theorem dX7_tellsName_107 : decode cX7_tellsName 107 = .ok (.lload 4, 2) := by decide +kernel
theorem dX7_tellsName_109 : decode cX7_tellsName 109 = .ok (.lmul, 1) := by decide +kernel
theorem dX7_tellsName_110 : decode cX7_tellsName 110 = .ok (.aload_n 0, 1) := by decide +kernel
theorem dX7_tellsName_111 : decode cX7_tellsName 111 = .ok (.iload_n 3, 1) := by decide +kernel
theorem dX7_tellsName_112 : decode cX7_tellsName 112 = .ok (.iconst 0, 1) := by decide +kernel
theorem dX7_tellsName_113 : decode cX7_tellsName 113 = .ok (.invokevirtual 257, 3) := by decide +kernel
theorem dX7_tellsName_116 : decode cX7_tellsName 116 = .ok (.ladd, 1) := by decide +kernel
theorem dX7_tellsName_117 : decode cX7_tellsName 117 = .ok (.lstore 4, 2) := by decide +kernel
theorem dX7_tellsName_119 : decode cX7_tellsName 119 = .ok (.ldc2_w 284, 3) := by decide +kernel
theorem dX7_tellsName_122 : decode cX7_tellsName 122 = .ok (.lload 4, 2) := by decide +kernel
theorem dX7_tellsName_124 : decode cX7_tellsName 124 = .ok (.lmul, 1) := by decide +kernel
theorem dX7_tellsName_125 : decode cX7_tellsName 125 = .ok (.aload_n 0, 1) := by decide +kernel
theorem dX7_tellsName_126 : decode cX7_tellsName 126 = .ok (.iload_n 3, 1) := by decide +kernel
theorem dX7_tellsName_127 : decode cX7_tellsName 127 = .ok (.iconst 1, 1) := by decide +kernel
theorem dX7_tellsName_128 : decode cX7_tellsName 128 = .ok (.invokevirtual 257, 3) := by decide +kernel
theorem dX7_tellsName_131 : decode cX7_tellsName 131 = .ok (.ladd, 1) := by decide +kernel
theorem dX7_tellsName_132 : decode cX7_tellsName 132 = .ok (.lstore 4, 2) := by decide +kernel
theorem dX7_tellsName_134 : decode cX7_tellsName 134 = .ok (.ldc2_w 284, 3) := by decide +kernel
theorem dX7_tellsName_137 : decode cX7_tellsName 137 = .ok (.lload 4, 2) := by decide +kernel
theorem dX7_tellsName_139 : decode cX7_tellsName 139 = .ok (.lmul, 1) := by decide +kernel
theorem dX7_tellsName_140 : decode cX7_tellsName 140 = .ok (.aload_n 0, 1) := by decide +kernel
theorem dX7_tellsName_141 : decode cX7_tellsName 141 = .ok (.iload_n 3, 1) := by decide +kernel
theorem dX7_tellsName_142 : decode cX7_tellsName 142 = .ok (.bipush 9, 2) := by decide +kernel
theorem dX7_tellsName_144 : decode cX7_tellsName 144 = .ok (.iconst 0, 1) := by decide +kernel
theorem dX7_tellsName_145 : decode cX7_tellsName 145 = .ok (.invokevirtual 267, 3) := by decide +kernel
theorem dX7_tellsName_148 : decode cX7_tellsName 148 = .ok (.ladd, 1) := by decide +kernel
theorem dX7_tellsName_149 : decode cX7_tellsName 149 = .ok (.lstore 4, 2) := by decide +kernel
theorem dX7_tellsName_151 : decode cX7_tellsName 151 = .ok (.ldc2_w 284, 3) := by decide +kernel
theorem dX7_tellsName_154 : decode cX7_tellsName 154 = .ok (.lload 4, 2) := by decide +kernel
theorem dX7_tellsName_156 : decode cX7_tellsName 156 = .ok (.lmul, 1) := by decide +kernel
theorem dX7_tellsName_157 : decode cX7_tellsName 157 = .ok (.aload_n 0, 1) := by decide +kernel
theorem dX7_tellsName_158 : decode cX7_tellsName 158 = .ok (.iload_n 3, 1) := by decide +kernel
theorem dX7_tellsName_159 : decode cX7_tellsName 159 = .ok (.bipush 9, 2) := by decide +kernel
theorem dX7_tellsName_161 : decode cX7_tellsName 161 = .ok (.iconst 1, 1) := by decide +kernel
theorem dX7_tellsName_162 : decode cX7_tellsName 162 = .ok (.invokevirtual 267, 3) := by decide +kernel
theorem dX7_tellsName_165 : decode cX7_tellsName 165 = .ok (.ladd, 1) := by decide +kernel
theorem dX7_tellsName_166 : decode cX7_tellsName 166 = .ok (.lstore 4, 2) := by decide +kernel
theorem dX7_tellsName_168 : decode cX7_tellsName 168 = .ok (.ldc2_w 284, 3) := by decide +kernel
theorem dX7_tellsName_171 : decode cX7_tellsName 171 = .ok (.lload 4, 2) := by decide +kernel
theorem dX7_tellsName_173 : decode cX7_tellsName 173 = .ok (.lmul, 1) := by decide +kernel
theorem dX7_tellsName_174 : decode cX7_tellsName 174 = .ok (.aload_n 0, 1) := by decide +kernel
theorem dX7_tellsName_175 : decode cX7_tellsName 175 = .ok (.bipush 7, 2) := by decide +kernel
theorem dX7_tellsName_177 : decode cX7_tellsName 177 = .ok (.bipush 9, 2) := by decide +kernel
theorem dX7_tellsName_179 : decode cX7_tellsName 179 = .ok (.iload_n 3, 1) := by decide +kernel
theorem dX7_tellsName_180 : decode cX7_tellsName 180 = .ok (.iconst 0, 1) := by decide +kernel
theorem dX7_tellsName_181 : decode cX7_tellsName 181 = .ok (.invokevirtual 280, 3) := by decide +kernel
theorem dX7_tellsName_184 : decode cX7_tellsName 184 = .ok (.i2l, 1) := by decide +kernel
theorem dX7_tellsName_185 : decode cX7_tellsName 185 = .ok (.ladd, 1) := by decide +kernel
theorem dX7_tellsName_186 : decode cX7_tellsName 186 = .ok (.lstore 4, 2) := by decide +kernel
theorem dX7_tellsName_188 : decode cX7_tellsName 188 = .ok (.ldc2_w 284, 3) := by decide +kernel
theorem dX7_tellsName_191 : decode cX7_tellsName 191 = .ok (.lload 4, 2) := by decide +kernel
theorem dX7_tellsName_193 : decode cX7_tellsName 193 = .ok (.lmul, 1) := by decide +kernel
theorem dX7_tellsName_194 : decode cX7_tellsName 194 = .ok (.aload_n 0, 1) := by decide +kernel
theorem dX7_tellsName_195 : decode cX7_tellsName 195 = .ok (.bipush 7, 2) := by decide +kernel
theorem dX7_tellsName_197 : decode cX7_tellsName 197 = .ok (.bipush 9, 2) := by decide +kernel
theorem dX7_tellsName_199 : decode cX7_tellsName 199 = .ok (.iload_n 3, 1) := by decide +kernel
theorem dX7_tellsName_200 : decode cX7_tellsName 200 = .ok (.iconst 1, 1) := by decide +kernel
theorem dX7_tellsName_201 : decode cX7_tellsName 201 = .ok (.invokevirtual 280, 3) := by decide +kernel
theorem dX7_tellsName_204 : decode cX7_tellsName 204 = .ok (.i2l, 1) := by decide +kernel
theorem dX7_tellsName_205 : decode cX7_tellsName 205 = .ok (.ladd, 1) := by decide +kernel
theorem dX7_tellsName_206 : decode cX7_tellsName 206 = .ok (.lreturn, 1) := by decide +kernel
theorem dX7_digest_0 : decode cX7_digest 0 = .ok (.ldc2_w 292, 3) := by decide +kernel
theorem dX7_digest_3 : decode cX7_digest 3 = .ok (.lstore_n 1, 1) := by decide +kernel
theorem dX7_digest_4 : decode cX7_digest 4 = .ok (.iconst 0, 1) := by decide +kernel
theorem dX7_digest_5 : decode cX7_digest 5 = .ok (.istore_n 3, 1) := by decide +kernel
theorem dX7_digest_6 : decode cX7_digest 6 = .ok (.iload_n 3, 1) := by decide +kernel
theorem dX7_digest_7 : decode cX7_digest 7 = .ok (.bipush 8, 2) := by decide +kernel
theorem dX7_digest_9 : decode cX7_digest 9 = .ok (.if_icmp .ge 22, 3) := by decide +kernel
theorem dX7_digest_12 : decode cX7_digest 12 = .ok (.ldc2_w 284, 3) := by decide +kernel
theorem dX7_digest_15 : decode cX7_digest 15 = .ok (.lload_n 1, 1) := by decide +kernel
theorem dX7_digest_16 : decode cX7_digest 16 = .ok (.lmul, 1) := by decide +kernel
theorem dX7_digest_17 : decode cX7_digest 17 = .ok (.aload_n 0, 1) := by decide +kernel
theorem dX7_digest_18 : decode cX7_digest 18 = .ok (.iload_n 3, 1) := by decide +kernel
theorem dX7_digest_19 : decode cX7_digest 19 = .ok (.invokevirtual 294, 3) := by decide +kernel
theorem dX7_digest_22 : decode cX7_digest 22 = .ok (.i2l, 1) := by decide +kernel
theorem dX7_digest_23 : decode cX7_digest 23 = .ok (.ladd, 1) := by decide +kernel
theorem dX7_digest_24 : decode cX7_digest 24 = .ok (.lstore_n 1, 1) := by decide +kernel
theorem dX7_digest_25 : decode cX7_digest 25 = .ok (.iinc 3 1, 3) := by decide +kernel
theorem dX7_digest_28 : decode cX7_digest 28 = .ok (.goto (-22), 3) := by decide +kernel
theorem dX7_digest_31 : decode cX7_digest 31 = .ok (.iconst 0, 1) := by decide +kernel
theorem dX7_digest_32 : decode cX7_digest 32 = .ok (.istore_n 3, 1) := by decide +kernel
theorem dX7_digest_33 : decode cX7_digest 33 = .ok (.iload_n 3, 1) := by decide +kernel
theorem dX7_digest_34 : decode cX7_digest 34 = .ok (.iconst 3, 1) := by decide +kernel
theorem dX7_digest_35 : decode cX7_digest 35 = .ok (.if_icmp .ge 22, 3) := by decide +kernel
theorem dX7_digest_38 : decode cX7_digest 38 = .ok (.ldc2_w 284, 3) := by decide +kernel
theorem dX7_digest_41 : decode cX7_digest 41 = .ok (.lload_n 1, 1) := by decide +kernel
theorem dX7_digest_42 : decode cX7_digest 42 = .ok (.lmul, 1) := by decide +kernel
theorem dX7_digest_43 : decode cX7_digest 43 = .ok (.aload_n 0, 1) := by decide +kernel
theorem dX7_digest_44 : decode cX7_digest 44 = .ok (.iload_n 3, 1) := by decide +kernel
theorem dX7_digest_45 : decode cX7_digest 45 = .ok (.invokevirtual 119, 3) := by decide +kernel
theorem dX7_digest_48 : decode cX7_digest 48 = .ok (.i2l, 1) := by decide +kernel
theorem dX7_digest_49 : decode cX7_digest 49 = .ok (.ladd, 1) := by decide +kernel
theorem dX7_digest_50 : decode cX7_digest 50 = .ok (.lstore_n 1, 1) := by decide +kernel
theorem dX7_digest_51 : decode cX7_digest 51 = .ok (.iinc 3 1, 3) := by decide +kernel
theorem dX7_digest_54 : decode cX7_digest 54 = .ok (.goto (-21), 3) := by decide +kernel
theorem dX7_digest_57 : decode cX7_digest 57 = .ok (.iconst 0, 1) := by decide +kernel
theorem dX7_digest_58 : decode cX7_digest 58 = .ok (.istore_n 3, 1) := by decide +kernel
theorem dX7_digest_59 : decode cX7_digest 59 = .ok (.iload_n 3, 1) := by decide +kernel
theorem dX7_digest_60 : decode cX7_digest 60 = .ok (.aload_n 0, 1) := by decide +kernel
theorem dX7_digest_61 : decode cX7_digest 61 = .ok (.getfield 28, 3) := by decide +kernel
theorem dX7_digest_64 : decode cX7_digest 64 = .ok (.iconst 0, 1) := by decide +kernel
theorem dX7_digest_65 : decode cX7_digest 65 = .ok (.iaload, 1) := by decide +kernel
theorem dX7_digest_66 : decode cX7_digest 66 = .ok (.if_icmp .ge 16, 3) := by decide +kernel
theorem dX7_digest_69 : decode cX7_digest 69 = .ok (.aload_n 0, 1) := by decide +kernel
theorem dX7_digest_70 : decode cX7_digest 70 = .ok (.lload_n 1, 1) := by decide +kernel
theorem dX7_digest_71 : decode cX7_digest 71 = .ok (.iload_n 3, 1) := by decide +kernel
theorem dX7_digest_72 : decode cX7_digest 72 = .ok (.invokevirtual 297, 3) := by decide +kernel
theorem dX7_digest_75 : decode cX7_digest 75 = .ok (.lstore_n 1, 1) := by decide +kernel
theorem dX7_digest_76 : decode cX7_digest 76 = .ok (.iinc 3 1, 3) := by decide +kernel
theorem dX7_digest_79 : decode cX7_digest 79 = .ok (.goto (-20), 3) := by decide +kernel
theorem dX7_digest_82 : decode cX7_digest 82 = .ok (.iconst 0, 1) := by decide +kernel
theorem dX7_digest_83 : decode cX7_digest 83 = .ok (.istore_n 3, 1) := by decide +kernel
theorem dX7_digest_84 : decode cX7_digest 84 = .ok (.iload_n 3, 1) := by decide +kernel
theorem dX7_digest_85 : decode cX7_digest 85 = .ok (.aload_n 0, 1) := by decide +kernel
theorem dX7_digest_86 : decode cX7_digest 86 = .ok (.getfield 28, 3) := by decide +kernel
theorem dX7_digest_89 : decode cX7_digest 89 = .ok (.iconst 1, 1) := by decide +kernel
theorem dX7_digest_90 : decode cX7_digest 90 = .ok (.iaload, 1) := by decide +kernel
theorem dX7_digest_91 : decode cX7_digest 91 = .ok (.if_icmp .ge 16, 3) := by decide +kernel
theorem dX7_digest_94 : decode cX7_digest 94 = .ok (.aload_n 0, 1) := by decide +kernel
theorem dX7_digest_95 : decode cX7_digest 95 = .ok (.lload_n 1, 1) := by decide +kernel
theorem dX7_digest_96 : decode cX7_digest 96 = .ok (.iload_n 3, 1) := by decide +kernel
theorem dX7_digest_97 : decode cX7_digest 97 = .ok (.invokevirtual 301, 3) := by decide +kernel
theorem dX7_digest_100 : decode cX7_digest 100 = .ok (.lstore_n 1, 1) := by decide +kernel
theorem dX7_digest_101 : decode cX7_digest 101 = .ok (.iinc 3 1, 3) := by decide +kernel
theorem dX7_digest_104 : decode cX7_digest 104 = .ok (.goto (-20), 3) := by decide +kernel
theorem dX7_digest_107 : decode cX7_digest 107 = .ok (.iconst 0, 1) := by decide +kernel
theorem dX7_digest_108 : decode cX7_digest 108 = .ok (.istore_n 3, 1) := by decide +kernel
theorem dX7_digest_109 : decode cX7_digest 109 = .ok (.iload_n 3, 1) := by decide +kernel
theorem dX7_digest_110 : decode cX7_digest 110 = .ok (.aload_n 0, 1) := by decide +kernel
theorem dX7_digest_111 : decode cX7_digest 111 = .ok (.getfield 28, 3) := by decide +kernel
theorem dX7_digest_114 : decode cX7_digest 114 = .ok (.iconst 2, 1) := by decide +kernel
theorem dX7_digest_115 : decode cX7_digest 115 = .ok (.iaload, 1) := by decide +kernel
theorem dX7_digest_116 : decode cX7_digest 116 = .ok (.if_icmp .ge 39, 3) := by decide +kernel
theorem dX7_digest_119 : decode cX7_digest 119 = .ok (.iconst 0, 1) := by decide +kernel
theorem dX7_digest_120 : decode cX7_digest 120 = .ok (.istore 4, 2) := by decide +kernel
theorem dX7_digest_122 : decode cX7_digest 122 = .ok (.iload 4, 2) := by decide +kernel
theorem dX7_digest_124 : decode cX7_digest 124 = .ok (.iconst 4, 1) := by decide +kernel
theorem dX7_digest_125 : decode cX7_digest 125 = .ok (.if_icmp .ge 24, 3) := by decide +kernel
theorem dX7_digest_128 : decode cX7_digest 128 = .ok (.ldc2_w 284, 3) := by decide +kernel
theorem dX7_digest_131 : decode cX7_digest 131 = .ok (.lload_n 1, 1) := by decide +kernel
theorem dX7_digest_132 : decode cX7_digest 132 = .ok (.lmul, 1) := by decide +kernel
theorem dX7_digest_133 : decode cX7_digest 133 = .ok (.aload_n 0, 1) := by decide +kernel
theorem dX7_digest_134 : decode cX7_digest 134 = .ok (.iload_n 3, 1) := by decide +kernel
theorem dX7_digest_135 : decode cX7_digest 135 = .ok (.iload 4, 2) := by decide +kernel
theorem dX7_digest_137 : decode cX7_digest 137 = .ok (.invokevirtual 149, 3) := by decide +kernel
theorem dX7_digest_140 : decode cX7_digest 140 = .ok (.i2l, 1) := by decide +kernel
theorem dX7_digest_141 : decode cX7_digest 141 = .ok (.ladd, 1) := by decide +kernel
theorem dX7_digest_142 : decode cX7_digest 142 = .ok (.lstore_n 1, 1) := by decide +kernel
theorem dX7_digest_143 : decode cX7_digest 143 = .ok (.iinc 4 1, 3) := by decide +kernel
theorem dX7_digest_146 : decode cX7_digest 146 = .ok (.goto (-24), 3) := by decide +kernel
theorem dX7_digest_149 : decode cX7_digest 149 = .ok (.iinc 3 1, 3) := by decide +kernel
theorem dX7_digest_152 : decode cX7_digest 152 = .ok (.goto (-43), 3) := by decide +kernel
theorem dX7_digest_155 : decode cX7_digest 155 = .ok (.iconst 0, 1) := by decide +kernel
theorem dX7_digest_156 : decode cX7_digest 156 = .ok (.istore_n 3, 1) := by decide +kernel
theorem dX7_digest_157 : decode cX7_digest 157 = .ok (.iload_n 3, 1) := by decide +kernel
theorem dX7_digest_158 : decode cX7_digest 158 = .ok (.iconst 3, 1) := by decide +kernel
theorem dX7_digest_159 : decode cX7_digest 159 = .ok (.if_icmp .ge 61, 3) := by decide +kernel
theorem dX7_digest_162 : decode cX7_digest 162 = .ok (.iload_n 3, 1) := by decide +kernel
theorem dX7_digest_163 : decode cX7_digest 163 = .ok (.ifCond .ne 7, 3) := by decide +kernel
theorem dX7_digest_166 : decode cX7_digest 166 = .ok (.iconst 0, 1) := by decide +kernel
theorem dX7_digest_167 : decode cX7_digest 167 = .ok (.goto 15, 3) := by decide +kernel
theorem dX7_digest_170 : decode cX7_digest 170 = .ok (.iload_n 3, 1) := by decide +kernel
theorem dX7_digest_171 : decode cX7_digest 171 = .ok (.iconst 1, 1) := by decide +kernel
theorem dX7_digest_172 : decode cX7_digest 172 = .ok (.if_icmp .ne 8, 3) := by decide +kernel
theorem dX7_digest_175 : decode cX7_digest 175 = .ok (.bipush 9, 2) := by decide +kernel
theorem dX7_digest_177 : decode cX7_digest 177 = .ok (.goto 5, 3) := by decide +kernel
theorem dX7_digest_180 : decode cX7_digest 180 = .ok (.bipush 29, 2) := by decide +kernel
theorem dX7_digest_182 : decode cX7_digest 182 = .ok (.istore 4, 2) := by decide +kernel
theorem dX7_digest_184 : decode cX7_digest 184 = .ok (.ldc2_w 284, 3) := by decide +kernel
theorem dX7_digest_187 : decode cX7_digest 187 = .ok (.lload_n 1, 1) := by decide +kernel
theorem dX7_digest_188 : decode cX7_digest 188 = .ok (.lmul, 1) := by decide +kernel
theorem dX7_digest_189 : decode cX7_digest 189 = .ok (.aload_n 0, 1) := by decide +kernel
theorem dX7_digest_190 : decode cX7_digest 190 = .ok (.iload 4, 2) := by decide +kernel
theorem dX7_digest_192 : decode cX7_digest 192 = .ok (.iconst 0, 1) := by decide +kernel
theorem dX7_digest_193 : decode cX7_digest 193 = .ok (.invokevirtual 203, 3) := by decide +kernel
theorem dX7_digest_196 : decode cX7_digest 196 = .ok (.i2l, 1) := by decide +kernel
theorem dX7_digest_197 : decode cX7_digest 197 = .ok (.ladd, 1) := by decide +kernel
theorem dX7_digest_198 : decode cX7_digest 198 = .ok (.lstore_n 1, 1) := by decide +kernel
theorem dX7_digest_199 : decode cX7_digest 199 = .ok (.ldc2_w 284, 3) := by decide +kernel
theorem dX7_digest_202 : decode cX7_digest 202 = .ok (.lload_n 1, 1) := by decide +kernel
theorem dX7_digest_203 : decode cX7_digest 203 = .ok (.lmul, 1) := by decide +kernel
theorem dX7_digest_204 : decode cX7_digest 204 = .ok (.aload_n 0, 1) := by decide +kernel
theorem dX7_digest_205 : decode cX7_digest 205 = .ok (.iload 4, 2) := by decide +kernel
theorem dX7_digest_207 : decode cX7_digest 207 = .ok (.iconst 1, 1) := by decide +kernel
theorem dX7_digest_208 : decode cX7_digest 208 = .ok (.invokevirtual 203, 3) := by decide +kernel
theorem dX7_digest_211 : decode cX7_digest 211 = .ok (.i2l, 1) := by decide +kernel
theorem dX7_digest_212 : decode cX7_digest 212 = .ok (.ladd, 1) := by decide +kernel
theorem dX7_digest_213 : decode cX7_digest 213 = .ok (.lstore_n 1, 1) := by decide +kernel
theorem dX7_digest_214 : decode cX7_digest 214 = .ok (.iinc 3 1, 3) := by decide +kernel
theorem dX7_digest_217 : decode cX7_digest 217 = .ok (.goto (-60), 3) := by decide +kernel
theorem dX7_digest_220 : decode cX7_digest 220 = .ok (.ldc2_w 284, 3) := by decide +kernel
theorem dX7_digest_223 : decode cX7_digest 223 = .ok (.lload_n 1, 1) := by decide +kernel
theorem dX7_digest_224 : decode cX7_digest 224 = .ok (.lmul, 1) := by decide +kernel
theorem dX7_digest_225 : decode cX7_digest 225 = .ok (.aload_n 0, 1) := by decide +kernel
theorem dX7_digest_226 : decode cX7_digest 226 = .ok (.iconst 0, 1) := by decide +kernel
theorem dX7_digest_227 : decode cX7_digest 227 = .ok (.invokevirtual 209, 3) := by decide +kernel
theorem dX7_digest_230 : decode cX7_digest 230 = .ok (.i2l, 1) := by decide +kernel
theorem dX7_digest_231 : decode cX7_digest 231 = .ok (.ladd, 1) := by decide +kernel
theorem dX7_digest_232 : decode cX7_digest 232 = .ok (.lstore_n 1, 1) := by decide +kernel
theorem dX7_digest_233 : decode cX7_digest 233 = .ok (.ldc2_w 284, 3) := by decide +kernel
theorem dX7_digest_236 : decode cX7_digest 236 = .ok (.lload_n 1, 1) := by decide +kernel
theorem dX7_digest_237 : decode cX7_digest 237 = .ok (.lmul, 1) := by decide +kernel
theorem dX7_digest_238 : decode cX7_digest 238 = .ok (.aload_n 0, 1) := by decide +kernel
theorem dX7_digest_239 : decode cX7_digest 239 = .ok (.iconst 1, 1) := by decide +kernel
theorem dX7_digest_240 : decode cX7_digest 240 = .ok (.invokevirtual 209, 3) := by decide +kernel
theorem dX7_digest_243 : decode cX7_digest 243 = .ok (.i2l, 1) := by decide +kernel
theorem dX7_digest_244 : decode cX7_digest 244 = .ok (.ladd, 1) := by decide +kernel
theorem dX7_digest_245 : decode cX7_digest 245 = .ok (.lstore_n 1, 1) := by decide +kernel
theorem dX7_digest_246 : decode cX7_digest 246 = .ok (.ldc2_w 284, 3) := by decide +kernel
theorem dX7_digest_249 : decode cX7_digest 249 = .ok (.lload_n 1, 1) := by decide +kernel
theorem dX7_digest_250 : decode cX7_digest 250 = .ok (.lmul, 1) := by decide +kernel
theorem dX7_digest_251 : decode cX7_digest 251 = .ok (.aload_n 0, 1) := by decide +kernel
theorem dX7_digest_252 : decode cX7_digest 252 = .ok (.invokevirtual 215, 3) := by decide +kernel
theorem dX7_digest_255 : decode cX7_digest 255 = .ok (.i2l, 1) := by decide +kernel
theorem dX7_digest_256 : decode cX7_digest 256 = .ok (.ladd, 1) := by decide +kernel
theorem dX7_digest_257 : decode cX7_digest 257 = .ok (.lstore_n 1, 1) := by decide +kernel
theorem dX7_digest_258 : decode cX7_digest 258 = .ok (.ldc2_w 284, 3) := by decide +kernel
theorem dX7_digest_261 : decode cX7_digest 261 = .ok (.lload_n 1, 1) := by decide +kernel
theorem dX7_digest_262 : decode cX7_digest 262 = .ok (.lmul, 1) := by decide +kernel
theorem dX7_digest_263 : decode cX7_digest 263 = .ok (.aload_n 0, 1) := by decide +kernel
theorem dX7_digest_264 : decode cX7_digest 264 = .ok (.iconst 0, 1) := by decide +kernel
theorem dX7_digest_265 : decode cX7_digest 265 = .ok (.invokevirtual 242, 3) := by decide +kernel
theorem dX7_digest_268 : decode cX7_digest 268 = .ok (.i2l, 1) := by decide +kernel
theorem dX7_digest_269 : decode cX7_digest 269 = .ok (.ladd, 1) := by decide +kernel
theorem dX7_digest_270 : decode cX7_digest 270 = .ok (.lstore_n 1, 1) := by decide +kernel
theorem dX7_digest_271 : decode cX7_digest 271 = .ok (.ldc2_w 284, 3) := by decide +kernel
theorem dX7_digest_274 : decode cX7_digest 274 = .ok (.lload_n 1, 1) := by decide +kernel
theorem dX7_digest_275 : decode cX7_digest 275 = .ok (.lmul, 1) := by decide +kernel
theorem dX7_digest_276 : decode cX7_digest 276 = .ok (.aload_n 0, 1) := by decide +kernel
theorem dX7_digest_277 : decode cX7_digest 277 = .ok (.iconst 1, 1) := by decide +kernel
theorem dX7_digest_278 : decode cX7_digest 278 = .ok (.invokevirtual 242, 3) := by decide +kernel
theorem dX7_digest_281 : decode cX7_digest 281 = .ok (.i2l, 1) := by decide +kernel
theorem dX7_digest_282 : decode cX7_digest 282 = .ok (.ladd, 1) := by decide +kernel
theorem dX7_digest_283 : decode cX7_digest 283 = .ok (.lstore_n 1, 1) := by decide +kernel
theorem dX7_digest_284 : decode cX7_digest 284 = .ok (.ldc2_w 284, 3) := by decide +kernel
theorem dX7_digest_287 : decode cX7_digest 287 = .ok (.lload_n 1, 1) := by decide +kernel
theorem dX7_digest_288 : decode cX7_digest 288 = .ok (.lmul, 1) := by decide +kernel
theorem dX7_digest_289 : decode cX7_digest 289 = .ok (.aload_n 0, 1) := by decide +kernel
theorem dX7_digest_290 : decode cX7_digest 290 = .ok (.invokevirtual 248, 3) := by decide +kernel
theorem dX7_digest_293 : decode cX7_digest 293 = .ok (.i2l, 1) := by decide +kernel
theorem dX7_digest_294 : decode cX7_digest 294 = .ok (.ladd, 1) := by decide +kernel
theorem dX7_digest_295 : decode cX7_digest 295 = .ok (.lreturn, 1) := by decide +kernel
theorem dJ6_bitCount_0f7a4_0 : decode cJ6_bitCount_0f7a4 0 = .ok (.iload_n 0, 1) := by decide +kernel
theorem dJ6_bitCount_0f7a4_1 : decode cJ6_bitCount_0f7a4 1 = .ok (.iload_n 0, 1) := by decide +kernel
theorem dJ6_bitCount_0f7a4_2 : decode cJ6_bitCount_0f7a4 2 = .ok (.iconst 1, 1) := by decide +kernel
theorem dJ6_bitCount_0f7a4_3 : decode cJ6_bitCount_0f7a4 3 = .ok (.iushr, 1) := by decide +kernel
theorem dJ6_bitCount_0f7a4_4 : decode cJ6_bitCount_0f7a4 4 = .ok (.ldc_w 265, 3) := by decide +kernel
theorem dJ6_bitCount_0f7a4_7 : decode cJ6_bitCount_0f7a4 7 = .ok (.iand, 1) := by decide +kernel
theorem dJ6_bitCount_0f7a4_8 : decode cJ6_bitCount_0f7a4 8 = .ok (.isub, 1) := by decide +kernel
theorem dJ6_bitCount_0f7a4_9 : decode cJ6_bitCount_0f7a4 9 = .ok (.istore_n 0, 1) := by decide +kernel
theorem dJ6_bitCount_0f7a4_10 : decode cJ6_bitCount_0f7a4 10 = .ok (.iload_n 0, 1) := by decide +kernel
theorem dJ6_bitCount_0f7a4_11 : decode cJ6_bitCount_0f7a4 11 = .ok (.ldc_w 266, 3) := by decide +kernel
theorem dJ6_bitCount_0f7a4_14 : decode cJ6_bitCount_0f7a4 14 = .ok (.iand, 1) := by decide +kernel
theorem dJ6_bitCount_0f7a4_15 : decode cJ6_bitCount_0f7a4 15 = .ok (.iload_n 0, 1) := by decide +kernel
theorem dJ6_bitCount_0f7a4_16 : decode cJ6_bitCount_0f7a4 16 = .ok (.iconst 2, 1) := by decide +kernel
theorem dJ6_bitCount_0f7a4_17 : decode cJ6_bitCount_0f7a4 17 = .ok (.iushr, 1) := by decide +kernel
theorem dJ6_bitCount_0f7a4_18 : decode cJ6_bitCount_0f7a4 18 = .ok (.ldc_w 266, 3) := by decide +kernel
theorem dJ6_bitCount_0f7a4_21 : decode cJ6_bitCount_0f7a4 21 = .ok (.iand, 1) := by decide +kernel
theorem dJ6_bitCount_0f7a4_22 : decode cJ6_bitCount_0f7a4 22 = .ok (.iadd, 1) := by decide +kernel
theorem dJ6_bitCount_0f7a4_23 : decode cJ6_bitCount_0f7a4 23 = .ok (.istore_n 0, 1) := by decide +kernel
theorem dJ6_bitCount_0f7a4_24 : decode cJ6_bitCount_0f7a4 24 = .ok (.iload_n 0, 1) := by decide +kernel
theorem dJ6_bitCount_0f7a4_25 : decode cJ6_bitCount_0f7a4 25 = .ok (.iload_n 0, 1) := by decide +kernel
theorem dJ6_bitCount_0f7a4_26 : decode cJ6_bitCount_0f7a4 26 = .ok (.iconst 4, 1) := by decide +kernel
theorem dJ6_bitCount_0f7a4_27 : decode cJ6_bitCount_0f7a4 27 = .ok (.iushr, 1) := by decide +kernel
theorem dJ6_bitCount_0f7a4_28 : decode cJ6_bitCount_0f7a4 28 = .ok (.iadd, 1) := by decide +kernel
theorem dJ6_bitCount_0f7a4_29 : decode cJ6_bitCount_0f7a4 29 = .ok (.ldc_w 267, 3) := by decide +kernel
theorem dJ6_bitCount_0f7a4_32 : decode cJ6_bitCount_0f7a4 32 = .ok (.iand, 1) := by decide +kernel
theorem dJ6_bitCount_0f7a4_33 : decode cJ6_bitCount_0f7a4 33 = .ok (.istore_n 0, 1) := by decide +kernel
theorem dJ6_bitCount_0f7a4_34 : decode cJ6_bitCount_0f7a4 34 = .ok (.iload_n 0, 1) := by decide +kernel
theorem dJ6_bitCount_0f7a4_35 : decode cJ6_bitCount_0f7a4 35 = .ok (.iload_n 0, 1) := by decide +kernel
theorem dJ6_bitCount_0f7a4_36 : decode cJ6_bitCount_0f7a4 36 = .ok (.bipush 8, 2) := by decide +kernel
theorem dJ6_bitCount_0f7a4_38 : decode cJ6_bitCount_0f7a4 38 = .ok (.iushr, 1) := by decide +kernel
theorem dJ6_bitCount_0f7a4_39 : decode cJ6_bitCount_0f7a4 39 = .ok (.iadd, 1) := by decide +kernel
theorem dJ6_bitCount_0f7a4_40 : decode cJ6_bitCount_0f7a4 40 = .ok (.istore_n 0, 1) := by decide +kernel
theorem dJ6_bitCount_0f7a4_41 : decode cJ6_bitCount_0f7a4 41 = .ok (.iload_n 0, 1) := by decide +kernel
theorem dJ6_bitCount_0f7a4_42 : decode cJ6_bitCount_0f7a4 42 = .ok (.iload_n 0, 1) := by decide +kernel
theorem dJ6_bitCount_0f7a4_43 : decode cJ6_bitCount_0f7a4 43 = .ok (.bipush 16, 2) := by decide +kernel
theorem dJ6_bitCount_0f7a4_45 : decode cJ6_bitCount_0f7a4 45 = .ok (.iushr, 1) := by decide +kernel
theorem dJ6_bitCount_0f7a4_46 : decode cJ6_bitCount_0f7a4 46 = .ok (.iadd, 1) := by decide +kernel
theorem dJ6_bitCount_0f7a4_47 : decode cJ6_bitCount_0f7a4 47 = .ok (.istore_n 0, 1) := by decide +kernel
theorem dJ6_bitCount_0f7a4_48 : decode cJ6_bitCount_0f7a4 48 = .ok (.iload_n 0, 1) := by decide +kernel
theorem dJ6_bitCount_0f7a4_49 : decode cJ6_bitCount_0f7a4 49 = .ok (.bipush 63, 2) := by decide +kernel
theorem dJ6_bitCount_0f7a4_51 : decode cJ6_bitCount_0f7a4 51 = .ok (.iand, 1) := by decide +kernel
theorem dJ6_bitCount_0f7a4_52 : decode cJ6_bitCount_0f7a4 52 = .ok (.ireturn, 1) := by decide +kernel
theorem dJ9_max_7cf53_0 : decode cJ9_max_7cf53 0 = .ok (.iload_n 0, 1) := by decide +kernel
theorem dJ9_max_7cf53_1 : decode cJ9_max_7cf53 1 = .ok (.iload_n 1, 1) := by decide +kernel
theorem dJ9_max_7cf53_2 : decode cJ9_max_7cf53 2 = .ok (.if_icmp .lt 7, 3) := by decide +kernel
theorem dJ9_max_7cf53_5 : decode cJ9_max_7cf53 5 = .ok (.iload_n 0, 1) := by decide +kernel
theorem dJ9_max_7cf53_6 : decode cJ9_max_7cf53 6 = .ok (.goto 4, 3) := by decide +kernel
theorem dJ9_max_7cf53_9 : decode cJ9_max_7cf53 9 = .ok (.iload_n 1, 1) := by decide +kernel
theorem dJ9_max_7cf53_10 : decode cJ9_max_7cf53 10 = .ok (.ireturn, 1) := by decide +kernel
theorem dJ9_min_7cf53_0 : decode cJ9_min_7cf53 0 = .ok (.iload_n 0, 1) := by decide +kernel
theorem dJ9_min_7cf53_1 : decode cJ9_min_7cf53 1 = .ok (.iload_n 1, 1) := by decide +kernel
theorem dJ9_min_7cf53_2 : decode cJ9_min_7cf53 2 = .ok (.if_icmp .gt 7, 3) := by decide +kernel
theorem dJ9_min_7cf53_5 : decode cJ9_min_7cf53 5 = .ok (.iload_n 0, 1) := by decide +kernel
theorem dJ9_min_7cf53_6 : decode cJ9_min_7cf53 6 = .ok (.goto 4, 3) := by decide +kernel
theorem dJ9_min_7cf53_9 : decode cJ9_min_7cf53 9 = .ok (.iload_n 1, 1) := by decide +kernel
theorem dJ9_min_7cf53_10 : decode cJ9_min_7cf53 10 = .ok (.ireturn, 1) := by decide +kernel
theorem dJ0_length_8abf5_0 : decode cJ0_length_8abf5 0 = .ok (.aload_n 0, 1) := by decide +kernel
theorem dJ0_length_8abf5_1 : decode cJ0_length_8abf5 1 = .ok (.getfield 9, 3) := by decide +kernel
theorem dJ0_length_8abf5_4 : decode cJ0_length_8abf5 4 = .ok (.arraylength, 1) := by decide +kernel
theorem dJ0_length_8abf5_5 : decode cJ0_length_8abf5 5 = .ok (.aload_n 0, 1) := by decide +kernel
theorem dJ0_length_8abf5_6 : decode cJ0_length_8abf5 6 = .ok (.invokevirtual 335, 3) := by decide +kernel
theorem dJ0_length_8abf5_9 : decode cJ0_length_8abf5 9 = .ok (.ishr, 1) := by decide +kernel
theorem dJ0_length_8abf5_10 : decode cJ0_length_8abf5 10 = .ok (.ireturn, 1) := by decide +kernel
theorem dJ0_charAt_5068e_0 : decode cJ0_charAt_5068e 0 = .ok (.aload_n 0, 1) := by decide +kernel
theorem dJ0_charAt_5068e_1 : decode cJ0_charAt_5068e 1 = .ok (.invokevirtual 492, 3) := by decide +kernel
theorem dJ0_charAt_5068e_4 : decode cJ0_charAt_5068e 4 = .ok (.ifCond .eq 12, 3) := by decide +kernel
theorem dJ0_charAt_5068e_7 : decode cJ0_charAt_5068e 7 = .ok (.aload_n 0, 1) := by decide +kernel
theorem dJ0_charAt_5068e_8 : decode cJ0_charAt_5068e 8 = .ok (.getfield 9, 3) := by decide +kernel
theorem dJ0_charAt_5068e_11 : decode cJ0_charAt_5068e 11 = .ok (.iload_n 1, 1) := by decide +kernel
theorem dJ0_charAt_5068e_12 : decode cJ0_charAt_5068e 12 = .ok (.invokestatic 495, 3) := by decide +kernel
theorem dJ0_charAt_5068e_15 : decode cJ0_charAt_5068e 15 = .ok (.ireturn, 1) := by decide +kernel
theorem dJ0_charAt_5068e_16 : decode cJ0_charAt_5068e 16 = .ok (.aload_n 0, 1) := by decide +kernel
theorem dJ0_charAt_5068e_17 : decode cJ0_charAt_5068e 17 = .ok (.getfield 9, 3) := by decide +kernel
theorem dJ0_charAt_5068e_20 : decode cJ0_charAt_5068e 20 = .ok (.iload_n 1, 1) := by decide +kernel
theorem dJ0_charAt_5068e_21 : decode cJ0_charAt_5068e 21 = .ok (.invokestatic 498, 3) := by decide +kernel
theorem dJ0_charAt_5068e_24 : decode cJ0_charAt_5068e 24 = .ok (.ireturn, 1) := by decide +kernel
theorem dJ0_coder_7d493_0 : decode cJ0_coder_7d493 0 = .ok (.getstatic 38, 3) := by decide +kernel
theorem dJ0_coder_7d493_3 : decode cJ0_coder_7d493 3 = .ok (.ifCond .eq 10, 3) := by decide +kernel
theorem dJ0_coder_7d493_6 : decode cJ0_coder_7d493 6 = .ok (.aload_n 0, 1) := by decide +kernel
theorem dJ0_coder_7d493_7 : decode cJ0_coder_7d493 7 = .ok (.getfield 15, 3) := by decide +kernel
theorem dJ0_coder_7d493_10 : decode cJ0_coder_7d493 10 = .ok (.goto 4, 3) := by decide +kernel
theorem dJ0_coder_7d493_13 : decode cJ0_coder_7d493 13 = .ok (.iconst 1, 1) := by decide +kernel
theorem dJ0_coder_7d493_14 : decode cJ0_coder_7d493 14 = .ok (.ireturn, 1) := by decide +kernel
theorem dJ0_isLatin1_aae02_0 : decode cJ0_isLatin1_aae02 0 = .ok (.getstatic 38, 3) := by decide +kernel
theorem dJ0_isLatin1_aae02_3 : decode cJ0_isLatin1_aae02 3 = .ok (.ifCond .eq 14, 3) := by decide +kernel
theorem dJ0_isLatin1_aae02_6 : decode cJ0_isLatin1_aae02 6 = .ok (.aload_n 0, 1) := by decide +kernel
theorem dJ0_isLatin1_aae02_7 : decode cJ0_isLatin1_aae02 7 = .ok (.getfield 15, 3) := by decide +kernel
theorem dJ0_isLatin1_aae02_10 : decode cJ0_isLatin1_aae02 10 = .ok (.ifCond .ne 7, 3) := by decide +kernel
theorem dJ0_isLatin1_aae02_13 : decode cJ0_isLatin1_aae02 13 = .ok (.iconst 1, 1) := by decide +kernel
theorem dJ0_isLatin1_aae02_14 : decode cJ0_isLatin1_aae02 14 = .ok (.goto 4, 3) := by decide +kernel
theorem dJ0_isLatin1_aae02_17 : decode cJ0_isLatin1_aae02 17 = .ok (.iconst 0, 1) := by decide +kernel
theorem dJ0_isLatin1_aae02_18 : decode cJ0_isLatin1_aae02 18 = .ok (.ireturn, 1) := by decide +kernel
theorem dJ0_checkIndex_df160_0 : decode cJ0_checkIndex_df160 0 = .ok (.iload_n 0, 1) := by decide +kernel
theorem dJ0_checkIndex_df160_1 : decode cJ0_checkIndex_df160 1 = .ok (.iload_n 1, 1) := by decide +kernel
theorem dJ0_checkIndex_df160_2 : decode cJ0_checkIndex_df160 2 = .ok (.getstatic 1053, 3) := by decide +kernel
theorem dJ0_checkIndex_df160_5 : decode cJ0_checkIndex_df160 5 = .ok (.invokestatic 1059, 3) := by decide +kernel
theorem dJ0_checkIndex_df160_8 : decode cJ0_checkIndex_df160 8 = .ok (.pop, 1) := by decide +kernel
theorem dJ0_checkIndex_df160_9 : decode cJ0_checkIndex_df160 9 = .ok (.return_, 1) := by decide +kernel
theorem dJ1_charAt_3b067_0 : decode cJ1_charAt_3b067 0 = .ok (.iload_n 1, 1) := by decide +kernel
theorem dJ1_charAt_3b067_1 : decode cJ1_charAt_3b067 1 = .ok (.aload_n 0, 1) := by decide +kernel
theorem dJ1_charAt_3b067_2 : decode cJ1_charAt_3b067 2 = .ok (.arraylength, 1) := by decide +kernel
theorem dJ1_charAt_3b067_3 : decode cJ1_charAt_3b067 3 = .ok (.invokestatic 9, 3) := by decide +kernel
theorem dJ1_charAt_3b067_6 : decode cJ1_charAt_3b067 6 = .ok (.aload_n 0, 1) := by decide +kernel
theorem dJ1_charAt_3b067_7 : decode cJ1_charAt_3b067 7 = .ok (.iload_n 1, 1) := by decide +kernel
theorem dJ1_charAt_3b067_8 : decode cJ1_charAt_3b067 8 = .ok (.baload, 1) := by decide +kernel
theorem dJ1_charAt_3b067_9 : decode cJ1_charAt_3b067 9 = .ok (.sipush 255, 3) := by decide +kernel
theorem dJ1_charAt_3b067_12 : decode cJ1_charAt_3b067 12 = .ok (.iand, 1) := by decide +kernel
theorem dJ1_charAt_3b067_13 : decode cJ1_charAt_3b067 13 = .ok (.i2c, 1) := by decide +kernel
theorem dJ1_charAt_3b067_14 : decode cJ1_charAt_3b067 14 = .ok (.ireturn, 1) := by decide +kernel
theorem dJ2_getChar_3b067_0 : decode cJ2_getChar_3b067 0 = .ok (.getstatic 44, 3) := by decide +kernel
theorem dJ2_getChar_3b067_3 : decode cJ2_getChar_3b067 3 = .ok (.ifCond .ne 25, 3) := by decide +kernel
theorem dJ2_getChar_3b067_6 : decode cJ2_getChar_3b067 6 = .ok (.iload_n 1, 1) := by decide +kernel
theorem dJ2_getChar_3b067_7 : decode cJ2_getChar_3b067 7 = .ok (.ifCond .lt 11, 3) := by decide +kernel
theorem dJ2_getChar_3b067_10 : decode cJ2_getChar_3b067 10 = .ok (.iload_n 1, 1) := by decide +kernel
theorem dJ2_getChar_3b067_11 : decode cJ2_getChar_3b067 11 = .ok (.aload_n 0, 1) := by decide +kernel
theorem dJ2_getChar_3b067_12 : decode cJ2_getChar_3b067 12 = .ok (.invokestatic 48, 3) := by decide +kernel
theorem dJ2_getChar_3b067_15 : decode cJ2_getChar_3b067 15 = .ok (.if_icmp .lt 13, 3) := by decide +kernel
theorem dJ2_getChar_3b067_18 : decode cJ2_getChar_3b067 18 = .ok (.new 52, 3) := by decide +kernel
theorem dJ2_getChar_3b067_21 : decode cJ2_getChar_3b067 21 = .ok (.dup, 1) := by decide +kernel
theorem dJ2_getChar_3b067_22 : decode cJ2_getChar_3b067 22 = .ok (.ldc 54, 2) := by decide +kernel
theorem dJ2_getChar_3b067_24 : decode cJ2_getChar_3b067 24 = .ok (.invokespecial 56, 3) := by decide +kernel
theorem dJ2_getChar_3b067_27 : decode cJ2_getChar_3b067 27 = .ok (.athrow, 1) := by decide +kernel
theorem dJ2_getChar_3b067_28 : decode cJ2_getChar_3b067 28 = .ok (.iload_n 1, 1) := by decide +kernel
theorem dJ2_getChar_3b067_29 : decode cJ2_getChar_3b067 29 = .ok (.iconst 1, 1) := by decide +kernel
theorem dJ2_getChar_3b067_30 : decode cJ2_getChar_3b067 30 = .ok (.ishl, 1) := by decide +kernel
theorem dJ2_getChar_3b067_31 : decode cJ2_getChar_3b067 31 = .ok (.istore_n 1, 1) := by decide +kernel
theorem dJ2_getChar_3b067_32 : decode cJ2_getChar_3b067 32 = .ok (.aload_n 0, 1) := by decide +kernel
theorem dJ2_getChar_3b067_33 : decode cJ2_getChar_3b067 33 = .ok (.iload_n 1, 1) := by decide +kernel
theorem dJ2_getChar_3b067_34 : decode cJ2_getChar_3b067 34 = .ok (.iinc 1 1, 3) := by decide +kernel
theorem dJ2_getChar_3b067_37 : decode cJ2_getChar_3b067 37 = .ok (.baload, 1) := by decide +kernel
theorem dJ2_getChar_3b067_38 : decode cJ2_getChar_3b067 38 = .ok (.sipush 255, 3) := by decide +kernel
theorem dJ2_getChar_3b067_41 : decode cJ2_getChar_3b067 41 = .ok (.iand, 1) := by decide +kernel
theorem dJ2_getChar_3b067_42 : decode cJ2_getChar_3b067 42 = .ok (.getstatic 59, 3) := by decide +kernel
theorem dJ2_getChar_3b067_45 : decode cJ2_getChar_3b067 45 = .ok (.ishl, 1) := by decide +kernel
theorem dJ2_getChar_3b067_46 : decode cJ2_getChar_3b067 46 = .ok (.aload_n 0, 1) := by decide +kernel
theorem dJ2_getChar_3b067_47 : decode cJ2_getChar_3b067 47 = .ok (.iload_n 1, 1) := by decide +kernel
theorem dJ2_getChar_3b067_48 : decode cJ2_getChar_3b067 48 = .ok (.baload, 1) := by decide +kernel
theorem dJ2_getChar_3b067_49 : decode cJ2_getChar_3b067 49 = .ok (.sipush 255, 3) := by decide +kernel
theorem dJ2_getChar_3b067_52 : decode cJ2_getChar_3b067 52 = .ok (.iand, 1) := by decide +kernel
theorem dJ2_getChar_3b067_53 : decode cJ2_getChar_3b067 53 = .ok (.getstatic 63, 3) := by decide +kernel
theorem dJ2_getChar_3b067_56 : decode cJ2_getChar_3b067 56 = .ok (.ishl, 1) := by decide +kernel
theorem dJ2_getChar_3b067_57 : decode cJ2_getChar_3b067 57 = .ok (.ior, 1) := by decide +kernel
theorem dJ2_getChar_3b067_58 : decode cJ2_getChar_3b067 58 = .ok (.i2c, 1) := by decide +kernel
theorem dJ2_getChar_3b067_59 : decode cJ2_getChar_3b067 59 = .ok (.ireturn, 1) := by decide +kernel
theorem dJ2_length_9d52b_0 : decode cJ2_length_9d52b 0 = .ok (.aload_n 0, 1) := by decide +kernel
theorem dJ2_length_9d52b_1 : decode cJ2_length_9d52b 1 = .ok (.arraylength, 1) := by decide +kernel
theorem dJ2_length_9d52b_2 : decode cJ2_length_9d52b 2 = .ok (.iconst 1, 1) := by decide +kernel
theorem dJ2_length_9d52b_3 : decode cJ2_length_9d52b 3 = .ok (.ishr, 1) := by decide +kernel
theorem dJ2_length_9d52b_4 : decode cJ2_length_9d52b 4 = .ok (.ireturn, 1) := by decide +kernel
theorem dJ2_charAt_3b067_0 : decode cJ2_charAt_3b067 0 = .ok (.iload_n 1, 1) := by decide +kernel
theorem dJ2_charAt_3b067_1 : decode cJ2_charAt_3b067 1 = .ok (.aload_n 0, 1) := by decide +kernel
theorem dJ2_charAt_3b067_2 : decode cJ2_charAt_3b067 2 = .ok (.invokestatic 67, 3) := by decide +kernel
theorem dJ2_charAt_3b067_5 : decode cJ2_charAt_3b067 5 = .ok (.aload_n 0, 1) := by decide +kernel
theorem dJ2_charAt_3b067_6 : decode cJ2_charAt_3b067 6 = .ok (.iload_n 1, 1) := by decide +kernel
theorem dJ2_charAt_3b067_7 : decode cJ2_charAt_3b067 7 = .ok (.invokestatic 71, 3) := by decide +kernel
theorem dJ2_charAt_3b067_10 : decode cJ2_charAt_3b067 10 = .ok (.ireturn, 1) := by decide +kernel
theorem dJ2_checkIndex_2214a_0 : decode cJ2_checkIndex_2214a 0 = .ok (.iload_n 0, 1) := by decide +kernel
theorem dJ2_checkIndex_2214a_1 : decode cJ2_checkIndex_2214a 1 = .ok (.aload_n 1, 1) := by decide +kernel
theorem dJ2_checkIndex_2214a_2 : decode cJ2_checkIndex_2214a 2 = .ok (.invokestatic 48, 3) := by decide +kernel
theorem dJ2_checkIndex_2214a_5 : decode cJ2_checkIndex_2214a 5 = .ok (.invokestatic 414, 3) := by decide +kernel
theorem dJ2_checkIndex_2214a_8 : decode cJ2_checkIndex_2214a 8 = .ok (.return_, 1) := by decide +kernel
theorem dJ7_fill_53178_0 : decode cJ7_fill_53178 0 = .ok (.iconst 0, 1) := by decide +kernel
theorem dJ7_fill_53178_1 : decode cJ7_fill_53178 1 = .ok (.istore_n 2, 1) := by decide +kernel
theorem dJ7_fill_53178_2 : decode cJ7_fill_53178 2 = .ok (.aload_n 0, 1) := by decide +kernel
theorem dJ7_fill_53178_3 : decode cJ7_fill_53178 3 = .ok (.arraylength, 1) := by decide +kernel
theorem dJ7_fill_53178_4 : decode cJ7_fill_53178 4 = .ok (.istore_n 3, 1) := by decide +kernel
theorem dJ7_fill_53178_5 : decode cJ7_fill_53178 5 = .ok (.iload_n 2, 1) := by decide +kernel
theorem dJ7_fill_53178_6 : decode cJ7_fill_53178 6 = .ok (.iload_n 3, 1) := by decide +kernel
theorem dJ7_fill_53178_7 : decode cJ7_fill_53178 7 = .ok (.if_icmp .ge 13, 3) := by decide +kernel
theorem dJ7_fill_53178_10 : decode cJ7_fill_53178 10 = .ok (.aload_n 0, 1) := by decide +kernel
theorem dJ7_fill_53178_11 : decode cJ7_fill_53178 11 = .ok (.iload_n 2, 1) := by decide +kernel
theorem dJ7_fill_53178_12 : decode cJ7_fill_53178 12 = .ok (.iload_n 1, 1) := by decide +kernel
theorem dJ7_fill_53178_13 : decode cJ7_fill_53178 13 = .ok (.iastore, 1) := by decide +kernel
theorem dJ7_fill_53178_14 : decode cJ7_fill_53178 14 = .ok (.iinc 2 1, 3) := by decide +kernel
theorem dJ7_fill_53178_17 : decode cJ7_fill_53178 17 = .ok (.goto (-12), 3) := by decide +kernel
theorem dJ7_fill_53178_20 : decode cJ7_fill_53178 20 = .ok (.return_, 1) := by decide +kernel
theorem dJ3_checkIndex_8e157_0 : decode cJ3_checkIndex_8e157 0 = .ok (.iload_n 0, 1) := by decide +kernel
theorem dJ3_checkIndex_8e157_1 : decode cJ3_checkIndex_8e157 1 = .ok (.ifCond .lt 8, 3) := by decide +kernel
theorem dJ3_checkIndex_8e157_4 : decode cJ3_checkIndex_8e157 4 = .ok (.iload_n 0, 1) := by decide +kernel
theorem dJ3_checkIndex_8e157_5 : decode cJ3_checkIndex_8e157 5 = .ok (.iload_n 1, 1) := by decide +kernel
theorem dJ3_checkIndex_8e157_6 : decode cJ3_checkIndex_8e157 6 = .ok (.if_icmp .lt 10, 3) := by decide +kernel
theorem dJ3_checkIndex_8e157_9 : decode cJ3_checkIndex_8e157 9 = .ok (.aload_n 2, 1) := by decide +kernel
theorem dJ3_checkIndex_8e157_10 : decode cJ3_checkIndex_8e157 10 = .ok (.iload_n 0, 1) := by decide +kernel
theorem dJ3_checkIndex_8e157_11 : decode cJ3_checkIndex_8e157 11 = .ok (.iload_n 1, 1) := by decide +kernel
theorem dJ3_checkIndex_8e157_12 : decode cJ3_checkIndex_8e157 12 = .ok (.invokestatic 95, 3) := by decide +kernel
theorem dJ3_checkIndex_8e157_15 : decode cJ3_checkIndex_8e157 15 = .ok (.athrow, 1) := by decide +kernel
theorem dJ3_checkIndex_8e157_16 : decode cJ3_checkIndex_8e157 16 = .ok (.iload_n 0, 1) := by decide +kernel
theorem dJ3_checkIndex_8e157_17 : decode cJ3_checkIndex_8e157 17 = .ok (.ireturn, 1) := by decide +kernel
theorem dL_law_0 : decode cL_law 0 = .ok (.new 7, 3) := by decide +kernel
theorem dL_law_3 : decode cL_law 3 = .ok (.dup, 1) := by decide +kernel
theorem dL_law_4 : decode cL_law 4 = .ok (.invokespecial 9, 3) := by decide +kernel
theorem dL_law_7 : decode cL_law 7 = .ok (.astore_n 1, 1) := by decide +kernel
theorem dL_law_8 : decode cL_law 8 = .ok (.new 10, 3) := by decide +kernel
theorem dL_law_11 : decode cL_law 11 = .ok (.dup, 1) := by decide +kernel
theorem dL_law_12 : decode cL_law 12 = .ok (.invokespecial 12, 3) := by decide +kernel
theorem dL_law_15 : decode cL_law 15 = .ok (.astore_n 2, 1) := by decide +kernel
theorem dL_law_16 : decode cL_law 16 = .ok (.iconst 0, 1) := by decide +kernel
theorem dL_law_17 : decode cL_law 17 = .ok (.istore_n 3, 1) := by decide +kernel
theorem dL_law_18 : decode cL_law 18 = .ok (.iload_n 3, 1) := by decide +kernel
theorem dL_law_19 : decode cL_law 19 = .ok (.aload_n 0, 1) := by decide +kernel
theorem dL_law_20 : decode cL_law 20 = .ok (.arraylength, 1) := by decide +kernel
theorem dL_law_21 : decode cL_law 21 = .ok (.bipush 6, 2) := by decide +kernel
theorem dL_law_23 : decode cL_law 23 = .ok (.isub, 1) := by decide +kernel
theorem dL_law_24 : decode cL_law 24 = .ok (.if_icmp .gt 1255, 3) := by decide +kernel
theorem dL_law_27 : decode cL_law 27 = .ok (.aload_n 0, 1) := by decide +kernel
theorem dL_law_28 : decode cL_law 28 = .ok (.iload_n 3, 1) := by decide +kernel
theorem dL_law_29 : decode cL_law 29 = .ok (.iaload, 1) := by decide +kernel
theorem dL_law_30 : decode cL_law 30 = .ok (.bipush 63, 2) := by decide +kernel
theorem dL_law_32 : decode cL_law 32 = .ok (.iand, 1) := by decide +kernel
theorem dL_law_33 : decode cL_law 33 = .ok (.tableswitch 1240 0 35 #[159, 192, 215, 238, 261, 294, 327, 360, 383, 416, 429, 452, 485, 518, 541, 574, 607, 640, 663, 676, 699, 732, 765, 778, 801, 814, 848, 892, 945, 988, 1011, 1064, 1107, 1170, 1203, 1226], 159) := by decide +kernel
theorem dL_law_192 : decode cL_law 192 = .ok (.aload_n 1, 1) := by decide +kernel
theorem dL_law_193 : decode cL_law 193 = .ok (.aload_n 0, 1) := by decide +kernel
theorem dL_law_194 : decode cL_law 194 = .ok (.iload_n 3, 1) := by decide +kernel
theorem dL_law_195 : decode cL_law 195 = .ok (.iconst 1, 1) := by decide +kernel
theorem dL_law_196 : decode cL_law 196 = .ok (.iadd, 1) := by decide +kernel
theorem dL_law_197 : decode cL_law 197 = .ok (.iaload, 1) := by decide +kernel
theorem dL_law_198 : decode cL_law 198 = .ok (.aload_n 0, 1) := by decide +kernel
theorem dL_law_199 : decode cL_law 199 = .ok (.iload_n 3, 1) := by decide +kernel
theorem dL_law_200 : decode cL_law 200 = .ok (.iconst 2, 1) := by decide +kernel
theorem dL_law_201 : decode cL_law 201 = .ok (.iadd, 1) := by decide +kernel
theorem dL_law_202 : decode cL_law 202 = .ok (.iaload, 1) := by decide +kernel
theorem dL_law_203 : decode cL_law 203 = .ok (.invokevirtual 13, 3) := by decide +kernel
theorem dL_law_206 : decode cL_law 206 = .ok (.aload_n 2, 1) := by decide +kernel
theorem dL_law_207 : decode cL_law 207 = .ok (.aload_n 0, 1) := by decide +kernel
theorem dL_law_208 : decode cL_law 208 = .ok (.iload_n 3, 1) := by decide +kernel
theorem dL_law_209 : decode cL_law 209 = .ok (.iconst 1, 1) := by decide +kernel
theorem dL_law_210 : decode cL_law 210 = .ok (.iadd, 1) := by decide +kernel
theorem dL_law_211 : decode cL_law 211 = .ok (.iaload, 1) := by decide +kernel
theorem dL_law_212 : decode cL_law 212 = .ok (.aload_n 0, 1) := by decide +kernel
theorem dL_law_213 : decode cL_law 213 = .ok (.iload_n 3, 1) := by decide +kernel
theorem dL_law_214 : decode cL_law 214 = .ok (.iconst 2, 1) := by decide +kernel
theorem dL_law_215 : decode cL_law 215 = .ok (.iadd, 1) := by decide +kernel
theorem dL_law_216 : decode cL_law 216 = .ok (.iaload, 1) := by decide +kernel
theorem dL_law_217 : decode cL_law 217 = .ok (.invokevirtual 17, 3) := by decide +kernel
theorem dL_law_220 : decode cL_law 220 = .ok (.if_icmp .eq 1053, 3) := by decide +kernel
theorem dL_law_223 : decode cL_law 223 = .ok (.iconst 0, 1) := by decide +kernel
theorem dL_law_224 : decode cL_law 224 = .ok (.ireturn, 1) := by decide +kernel
theorem dL_law_225 : decode cL_law 225 = .ok (.aload_n 1, 1) := by decide +kernel
theorem dL_law_226 : decode cL_law 226 = .ok (.aload_n 0, 1) := by decide +kernel
theorem dL_law_227 : decode cL_law 227 = .ok (.iload_n 3, 1) := by decide +kernel
theorem dL_law_228 : decode cL_law 228 = .ok (.iconst 1, 1) := by decide +kernel
theorem dL_law_229 : decode cL_law 229 = .ok (.iadd, 1) := by decide +kernel
theorem dL_law_230 : decode cL_law 230 = .ok (.iaload, 1) := by decide +kernel
theorem dL_law_231 : decode cL_law 231 = .ok (.invokevirtual 18, 3) := by decide +kernel
theorem dL_law_234 : decode cL_law 234 = .ok (.aload_n 2, 1) := by decide +kernel
theorem dL_law_235 : decode cL_law 235 = .ok (.aload_n 0, 1) := by decide +kernel
theorem dL_law_236 : decode cL_law 236 = .ok (.iload_n 3, 1) := by decide +kernel
theorem dL_law_237 : decode cL_law 237 = .ok (.iconst 1, 1) := by decide +kernel
theorem dL_law_238 : decode cL_law 238 = .ok (.iadd, 1) := by decide +kernel
theorem dL_law_239 : decode cL_law 239 = .ok (.iaload, 1) := by decide +kernel
theorem dL_law_240 : decode cL_law 240 = .ok (.invokevirtual 22, 3) := by decide +kernel
theorem dL_law_243 : decode cL_law 243 = .ok (.if_icmp .eq 1030, 3) := by decide +kernel
theorem dL_law_246 : decode cL_law 246 = .ok (.iconst 0, 1) := by decide +kernel
theorem dL_law_247 : decode cL_law 247 = .ok (.ireturn, 1) := by decide +kernel
theorem dL_law_248 : decode cL_law 248 = .ok (.aload_n 1, 1) := by decide +kernel
theorem dL_law_249 : decode cL_law 249 = .ok (.aload_n 0, 1) := by decide +kernel
theorem dL_law_250 : decode cL_law 250 = .ok (.iload_n 3, 1) := by decide +kernel
theorem dL_law_251 : decode cL_law 251 = .ok (.iconst 1, 1) := by decide +kernel
theorem dL_law_252 : decode cL_law 252 = .ok (.iadd, 1) := by decide +kernel
theorem dL_law_253 : decode cL_law 253 = .ok (.iaload, 1) := by decide +kernel
theorem dL_law_254 : decode cL_law 254 = .ok (.invokevirtual 23, 3) := by decide +kernel
theorem dL_law_257 : decode cL_law 257 = .ok (.aload_n 2, 1) := by decide +kernel
theorem dL_law_258 : decode cL_law 258 = .ok (.aload_n 0, 1) := by decide +kernel
theorem dL_law_259 : decode cL_law 259 = .ok (.iload_n 3, 1) := by decide +kernel
theorem dL_law_260 : decode cL_law 260 = .ok (.iconst 1, 1) := by decide +kernel
theorem dL_law_261 : decode cL_law 261 = .ok (.iadd, 1) := by decide +kernel
theorem dL_law_262 : decode cL_law 262 = .ok (.iaload, 1) := by decide +kernel
theorem dL_law_263 : decode cL_law 263 = .ok (.invokevirtual 26, 3) := by decide +kernel
theorem dL_law_266 : decode cL_law 266 = .ok (.if_icmp .eq 1007, 3) := by decide +kernel
theorem dL_law_269 : decode cL_law 269 = .ok (.iconst 0, 1) := by decide +kernel
theorem dL_law_270 : decode cL_law 270 = .ok (.ireturn, 1) := by decide +kernel
theorem dL_law_271 : decode cL_law 271 = .ok (.aload_n 1, 1) := by decide +kernel
theorem dL_law_272 : decode cL_law 272 = .ok (.aload_n 0, 1) := by decide +kernel
theorem dL_law_273 : decode cL_law 273 = .ok (.iload_n 3, 1) := by decide +kernel
theorem dL_law_274 : decode cL_law 274 = .ok (.iconst 1, 1) := by decide +kernel
theorem dL_law_275 : decode cL_law 275 = .ok (.iadd, 1) := by decide +kernel
theorem dL_law_276 : decode cL_law 276 = .ok (.iaload, 1) := by decide +kernel
theorem dL_law_277 : decode cL_law 277 = .ok (.invokevirtual 27, 3) := by decide +kernel
theorem dL_law_280 : decode cL_law 280 = .ok (.aload_n 2, 1) := by decide +kernel
theorem dL_law_281 : decode cL_law 281 = .ok (.aload_n 0, 1) := by decide +kernel
theorem dL_law_282 : decode cL_law 282 = .ok (.iload_n 3, 1) := by decide +kernel
theorem dL_law_283 : decode cL_law 283 = .ok (.iconst 1, 1) := by decide +kernel
theorem dL_law_284 : decode cL_law 284 = .ok (.iadd, 1) := by decide +kernel
theorem dL_law_285 : decode cL_law 285 = .ok (.iaload, 1) := by decide +kernel
theorem dL_law_286 : decode cL_law 286 = .ok (.invokevirtual 30, 3) := by decide +kernel
theorem dL_law_289 : decode cL_law 289 = .ok (.if_icmp .eq 984, 3) := by decide +kernel
theorem dL_law_292 : decode cL_law 292 = .ok (.iconst 0, 1) := by decide +kernel
theorem dL_law_293 : decode cL_law 293 = .ok (.ireturn, 1) := by decide +kernel
theorem dL_law_294 : decode cL_law 294 = .ok (.aload_n 1, 1) := by decide +kernel
theorem dL_law_295 : decode cL_law 295 = .ok (.aload_n 0, 1) := by decide +kernel
theorem dL_law_296 : decode cL_law 296 = .ok (.iload_n 3, 1) := by decide +kernel
theorem dL_law_297 : decode cL_law 297 = .ok (.iconst 1, 1) := by decide +kernel
theorem dL_law_298 : decode cL_law 298 = .ok (.iadd, 1) := by decide +kernel
theorem dL_law_299 : decode cL_law 299 = .ok (.iaload, 1) := by decide +kernel
theorem dL_law_300 : decode cL_law 300 = .ok (.aload_n 0, 1) := by decide +kernel
theorem dL_law_301 : decode cL_law 301 = .ok (.iload_n 3, 1) := by decide +kernel
theorem dL_law_302 : decode cL_law 302 = .ok (.iconst 2, 1) := by decide +kernel
theorem dL_law_303 : decode cL_law 303 = .ok (.iadd, 1) := by decide +kernel
theorem dL_law_304 : decode cL_law 304 = .ok (.iaload, 1) := by decide +kernel
theorem dL_law_305 : decode cL_law 305 = .ok (.invokevirtual 31, 3) := by decide +kernel
theorem dL_law_308 : decode cL_law 308 = .ok (.aload_n 2, 1) := by decide +kernel
theorem dL_law_309 : decode cL_law 309 = .ok (.aload_n 0, 1) := by decide +kernel
theorem dL_law_310 : decode cL_law 310 = .ok (.iload_n 3, 1) := by decide +kernel
theorem dL_law_311 : decode cL_law 311 = .ok (.iconst 1, 1) := by decide +kernel
theorem dL_law_312 : decode cL_law 312 = .ok (.iadd, 1) := by decide +kernel
theorem dL_law_313 : decode cL_law 313 = .ok (.iaload, 1) := by decide +kernel
theorem dL_law_314 : decode cL_law 314 = .ok (.aload_n 0, 1) := by decide +kernel
theorem dL_law_315 : decode cL_law 315 = .ok (.iload_n 3, 1) := by decide +kernel
theorem dL_law_316 : decode cL_law 316 = .ok (.iconst 2, 1) := by decide +kernel
theorem dL_law_317 : decode cL_law 317 = .ok (.iadd, 1) := by decide +kernel
theorem dL_law_318 : decode cL_law 318 = .ok (.iaload, 1) := by decide +kernel
theorem dL_law_319 : decode cL_law 319 = .ok (.invokevirtual 34, 3) := by decide +kernel
theorem dL_law_322 : decode cL_law 322 = .ok (.if_icmp .eq 951, 3) := by decide +kernel
theorem dL_law_325 : decode cL_law 325 = .ok (.iconst 0, 1) := by decide +kernel
theorem dL_law_326 : decode cL_law 326 = .ok (.ireturn, 1) := by decide +kernel
theorem dL_law_327 : decode cL_law 327 = .ok (.aload_n 1, 1) := by decide +kernel
theorem dL_law_328 : decode cL_law 328 = .ok (.aload_n 0, 1) := by decide +kernel
theorem dL_law_329 : decode cL_law 329 = .ok (.iload_n 3, 1) := by decide +kernel
theorem dL_law_330 : decode cL_law 330 = .ok (.iconst 1, 1) := by decide +kernel
theorem dL_law_331 : decode cL_law 331 = .ok (.iadd, 1) := by decide +kernel
theorem dL_law_332 : decode cL_law 332 = .ok (.iaload, 1) := by decide +kernel
theorem dL_law_333 : decode cL_law 333 = .ok (.aload_n 0, 1) := by decide +kernel
theorem dL_law_334 : decode cL_law 334 = .ok (.iload_n 3, 1) := by decide +kernel
theorem dL_law_335 : decode cL_law 335 = .ok (.iconst 2, 1) := by decide +kernel
theorem dL_law_336 : decode cL_law 336 = .ok (.iadd, 1) := by decide +kernel
theorem dL_law_337 : decode cL_law 337 = .ok (.iaload, 1) := by decide +kernel
theorem dL_law_338 : decode cL_law 338 = .ok (.invokevirtual 35, 3) := by decide +kernel
theorem dL_law_341 : decode cL_law 341 = .ok (.aload_n 2, 1) := by decide +kernel
theorem dL_law_342 : decode cL_law 342 = .ok (.aload_n 0, 1) := by decide +kernel
theorem dL_law_343 : decode cL_law 343 = .ok (.iload_n 3, 1) := by decide +kernel
theorem dL_law_344 : decode cL_law 344 = .ok (.iconst 1, 1) := by decide +kernel
theorem dL_law_345 : decode cL_law 345 = .ok (.iadd, 1) := by decide +kernel
theorem dL_law_346 : decode cL_law 346 = .ok (.iaload, 1) := by decide +kernel
theorem dL_law_347 : decode cL_law 347 = .ok (.aload_n 0, 1) := by decide +kernel
theorem dL_law_348 : decode cL_law 348 = .ok (.iload_n 3, 1) := by decide +kernel
theorem dL_law_349 : decode cL_law 349 = .ok (.iconst 2, 1) := by decide +kernel
theorem dL_law_350 : decode cL_law 350 = .ok (.iadd, 1) := by decide +kernel
theorem dL_law_351 : decode cL_law 351 = .ok (.iaload, 1) := by decide +kernel
theorem dL_law_352 : decode cL_law 352 = .ok (.invokevirtual 38, 3) := by decide +kernel
theorem dL_law_355 : decode cL_law 355 = .ok (.if_icmp .eq 918, 3) := by decide +kernel
theorem dL_law_358 : decode cL_law 358 = .ok (.iconst 0, 1) := by decide +kernel
theorem dL_law_359 : decode cL_law 359 = .ok (.ireturn, 1) := by decide +kernel
theorem dL_law_360 : decode cL_law 360 = .ok (.aload_n 1, 1) := by decide +kernel
theorem dL_law_361 : decode cL_law 361 = .ok (.aload_n 0, 1) := by decide +kernel
theorem dL_law_362 : decode cL_law 362 = .ok (.iload_n 3, 1) := by decide +kernel
theorem dL_law_363 : decode cL_law 363 = .ok (.iconst 1, 1) := by decide +kernel
theorem dL_law_364 : decode cL_law 364 = .ok (.iadd, 1) := by decide +kernel
theorem dL_law_365 : decode cL_law 365 = .ok (.iaload, 1) := by decide +kernel
theorem dL_law_366 : decode cL_law 366 = .ok (.aload_n 0, 1) := by decide +kernel
theorem dL_law_367 : decode cL_law 367 = .ok (.iload_n 3, 1) := by decide +kernel
theorem dL_law_368 : decode cL_law 368 = .ok (.iconst 2, 1) := by decide +kernel
theorem dL_law_369 : decode cL_law 369 = .ok (.iadd, 1) := by decide +kernel
theorem dL_law_370 : decode cL_law 370 = .ok (.iaload, 1) := by decide +kernel
theorem dL_law_371 : decode cL_law 371 = .ok (.invokevirtual 39, 3) := by decide +kernel
theorem dL_law_374 : decode cL_law 374 = .ok (.aload_n 2, 1) := by decide +kernel
theorem dL_law_375 : decode cL_law 375 = .ok (.aload_n 0, 1) := by decide +kernel
theorem dL_law_376 : decode cL_law 376 = .ok (.iload_n 3, 1) := by decide +kernel
theorem dL_law_377 : decode cL_law 377 = .ok (.iconst 1, 1) := by decide +kernel
theorem dL_law_378 : decode cL_law 378 = .ok (.iadd, 1) := by decide +kernel
theorem dL_law_379 : decode cL_law 379 = .ok (.iaload, 1) := by decide +kernel
theorem dL_law_380 : decode cL_law 380 = .ok (.aload_n 0, 1) := by decide +kernel
theorem dL_law_381 : decode cL_law 381 = .ok (.iload_n 3, 1) := by decide +kernel
theorem dL_law_382 : decode cL_law 382 = .ok (.iconst 2, 1) := by decide +kernel
theorem dL_law_383 : decode cL_law 383 = .ok (.iadd, 1) := by decide +kernel
theorem dL_law_384 : decode cL_law 384 = .ok (.iaload, 1) := by decide +kernel
theorem dL_law_385 : decode cL_law 385 = .ok (.invokevirtual 42, 3) := by decide +kernel
theorem dL_law_388 : decode cL_law 388 = .ok (.if_icmp .eq 885, 3) := by decide +kernel
theorem dL_law_391 : decode cL_law 391 = .ok (.iconst 0, 1) := by decide +kernel
theorem dL_law_392 : decode cL_law 392 = .ok (.ireturn, 1) := by decide +kernel
theorem dL_law_393 : decode cL_law 393 = .ok (.aload_n 1, 1) := by decide +kernel
theorem dL_law_394 : decode cL_law 394 = .ok (.aload_n 0, 1) := by decide +kernel
theorem dL_law_395 : decode cL_law 395 = .ok (.iload_n 3, 1) := by decide +kernel
theorem dL_law_396 : decode cL_law 396 = .ok (.iconst 1, 1) := by decide +kernel
theorem dL_law_397 : decode cL_law 397 = .ok (.iadd, 1) := by decide +kernel
theorem dL_law_398 : decode cL_law 398 = .ok (.iaload, 1) := by decide +kernel
theorem dL_law_399 : decode cL_law 399 = .ok (.invokevirtual 43, 3) := by decide +kernel
theorem dL_law_402 : decode cL_law 402 = .ok (.aload_n 2, 1) := by decide +kernel
theorem dL_law_403 : decode cL_law 403 = .ok (.aload_n 0, 1) := by decide +kernel
theorem dL_law_404 : decode cL_law 404 = .ok (.iload_n 3, 1) := by decide +kernel
theorem dL_law_405 : decode cL_law 405 = .ok (.iconst 1, 1) := by decide +kernel
theorem dL_law_406 : decode cL_law 406 = .ok (.iadd, 1) := by decide +kernel
theorem dL_law_407 : decode cL_law 407 = .ok (.iaload, 1) := by decide +kernel
theorem dL_law_408 : decode cL_law 408 = .ok (.invokevirtual 46, 3) := by decide +kernel
theorem dL_law_411 : decode cL_law 411 = .ok (.if_icmp .eq 862, 3) := by decide +kernel
theorem dL_law_414 : decode cL_law 414 = .ok (.iconst 0, 1) := by decide +kernel
theorem dL_law_415 : decode cL_law 415 = .ok (.ireturn, 1) := by decide +kernel
theorem dL_law_416 : decode cL_law 416 = .ok (.aload_n 1, 1) := by decide +kernel
theorem dL_law_417 : decode cL_law 417 = .ok (.aload_n 0, 1) := by decide +kernel
theorem dL_law_418 : decode cL_law 418 = .ok (.iload_n 3, 1) := by decide +kernel
theorem dL_law_419 : decode cL_law 419 = .ok (.iconst 1, 1) := by decide +kernel
theorem dL_law_420 : decode cL_law 420 = .ok (.iadd, 1) := by decide +kernel
theorem dL_law_421 : decode cL_law 421 = .ok (.iaload, 1) := by decide +kernel
theorem dL_law_422 : decode cL_law 422 = .ok (.aload_n 0, 1) := by decide +kernel
theorem dL_law_423 : decode cL_law 423 = .ok (.iload_n 3, 1) := by decide +kernel
theorem dL_law_424 : decode cL_law 424 = .ok (.iconst 2, 1) := by decide +kernel
theorem dL_law_425 : decode cL_law 425 = .ok (.iadd, 1) := by decide +kernel
theorem dL_law_426 : decode cL_law 426 = .ok (.iaload, 1) := by decide +kernel
theorem dL_law_427 : decode cL_law 427 = .ok (.invokevirtual 47, 3) := by decide +kernel
theorem dL_law_430 : decode cL_law 430 = .ok (.aload_n 2, 1) := by decide +kernel
theorem dL_law_431 : decode cL_law 431 = .ok (.aload_n 0, 1) := by decide +kernel
theorem dL_law_432 : decode cL_law 432 = .ok (.iload_n 3, 1) := by decide +kernel
theorem dL_law_433 : decode cL_law 433 = .ok (.iconst 1, 1) := by decide +kernel
theorem dL_law_434 : decode cL_law 434 = .ok (.iadd, 1) := by decide +kernel
theorem dL_law_435 : decode cL_law 435 = .ok (.iaload, 1) := by decide +kernel
theorem dL_law_436 : decode cL_law 436 = .ok (.aload_n 0, 1) := by decide +kernel
theorem dL_law_437 : decode cL_law 437 = .ok (.iload_n 3, 1) := by decide +kernel
theorem dL_law_438 : decode cL_law 438 = .ok (.iconst 2, 1) := by decide +kernel
theorem dL_law_439 : decode cL_law 439 = .ok (.iadd, 1) := by decide +kernel
theorem dL_law_440 : decode cL_law 440 = .ok (.iaload, 1) := by decide +kernel
theorem dL_law_441 : decode cL_law 441 = .ok (.invokevirtual 50, 3) := by decide +kernel
theorem dL_law_444 : decode cL_law 444 = .ok (.if_icmp .eq 829, 3) := by decide +kernel
theorem dL_law_447 : decode cL_law 447 = .ok (.iconst 0, 1) := by decide +kernel
theorem dL_law_448 : decode cL_law 448 = .ok (.ireturn, 1) := by decide +kernel
theorem dL_law_449 : decode cL_law 449 = .ok (.aload_n 1, 1) := by decide +kernel
theorem dL_law_450 : decode cL_law 450 = .ok (.invokevirtual 51, 3) := by decide +kernel
theorem dL_law_453 : decode cL_law 453 = .ok (.aload_n 2, 1) := by decide +kernel
theorem dL_law_454 : decode cL_law 454 = .ok (.invokevirtual 55, 3) := by decide +kernel
theorem dL_law_457 : decode cL_law 457 = .ok (.if_icmp .eq 816, 3) := by decide +kernel
theorem dL_law_460 : decode cL_law 460 = .ok (.iconst 0, 1) := by decide +kernel
theorem dL_law_461 : decode cL_law 461 = .ok (.ireturn, 1) := by decide +kernel
theorem dL_law_462 : decode cL_law 462 = .ok (.aload_n 1, 1) := by decide +kernel
theorem dL_law_463 : decode cL_law 463 = .ok (.aload_n 0, 1) := by decide +kernel
theorem dL_law_464 : decode cL_law 464 = .ok (.iload_n 3, 1) := by decide +kernel
theorem dL_law_465 : decode cL_law 465 = .ok (.iconst 1, 1) := by decide +kernel
theorem dL_law_466 : decode cL_law 466 = .ok (.iadd, 1) := by decide +kernel
theorem dL_law_467 : decode cL_law 467 = .ok (.iaload, 1) := by decide +kernel
theorem dL_law_468 : decode cL_law 468 = .ok (.invokevirtual 56, 3) := by decide +kernel
theorem dL_law_471 : decode cL_law 471 = .ok (.aload_n 2, 1) := by decide +kernel
theorem dL_law_472 : decode cL_law 472 = .ok (.aload_n 0, 1) := by decide +kernel
theorem dL_law_473 : decode cL_law 473 = .ok (.iload_n 3, 1) := by decide +kernel
theorem dL_law_474 : decode cL_law 474 = .ok (.iconst 1, 1) := by decide +kernel
theorem dL_law_475 : decode cL_law 475 = .ok (.iadd, 1) := by decide +kernel
theorem dL_law_476 : decode cL_law 476 = .ok (.iaload, 1) := by decide +kernel
theorem dL_law_477 : decode cL_law 477 = .ok (.invokevirtual 59, 3) := by decide +kernel
theorem dL_law_480 : decode cL_law 480 = .ok (.if_icmp .eq 793, 3) := by decide +kernel
theorem dL_law_483 : decode cL_law 483 = .ok (.iconst 0, 1) := by decide +kernel
theorem dL_law_484 : decode cL_law 484 = .ok (.ireturn, 1) := by decide +kernel
theorem dL_law_485 : decode cL_law 485 = .ok (.aload_n 1, 1) := by decide +kernel
theorem dL_law_486 : decode cL_law 486 = .ok (.aload_n 0, 1) := by decide +kernel
theorem dL_law_487 : decode cL_law 487 = .ok (.iload_n 3, 1) := by decide +kernel
theorem dL_law_488 : decode cL_law 488 = .ok (.iconst 1, 1) := by decide +kernel
theorem dL_law_489 : decode cL_law 489 = .ok (.iadd, 1) := by decide +kernel
theorem dL_law_490 : decode cL_law 490 = .ok (.iaload, 1) := by decide +kernel
theorem dL_law_491 : decode cL_law 491 = .ok (.aload_n 0, 1) := by decide +kernel
theorem dL_law_492 : decode cL_law 492 = .ok (.iload_n 3, 1) := by decide +kernel
theorem dL_law_493 : decode cL_law 493 = .ok (.iconst 2, 1) := by decide +kernel
theorem dL_law_494 : decode cL_law 494 = .ok (.iadd, 1) := by decide +kernel
theorem dL_law_495 : decode cL_law 495 = .ok (.iaload, 1) := by decide +kernel
theorem dL_law_496 : decode cL_law 496 = .ok (.invokevirtual 60, 3) := by decide +kernel
theorem dL_law_499 : decode cL_law 499 = .ok (.aload_n 2, 1) := by decide +kernel
theorem dL_law_500 : decode cL_law 500 = .ok (.aload_n 0, 1) := by decide +kernel
theorem dL_law_501 : decode cL_law 501 = .ok (.iload_n 3, 1) := by decide +kernel
theorem dL_law_502 : decode cL_law 502 = .ok (.iconst 1, 1) := by decide +kernel
theorem dL_law_503 : decode cL_law 503 = .ok (.iadd, 1) := by decide +kernel
theorem dL_law_504 : decode cL_law 504 = .ok (.iaload, 1) := by decide +kernel
theorem dL_law_505 : decode cL_law 505 = .ok (.aload_n 0, 1) := by decide +kernel
theorem dL_law_506 : decode cL_law 506 = .ok (.iload_n 3, 1) := by decide +kernel
theorem dL_law_507 : decode cL_law 507 = .ok (.iconst 2, 1) := by decide +kernel
theorem dL_law_508 : decode cL_law 508 = .ok (.iadd, 1) := by decide +kernel
theorem dL_law_509 : decode cL_law 509 = .ok (.iaload, 1) := by decide +kernel
theorem dL_law_510 : decode cL_law 510 = .ok (.invokevirtual 63, 3) := by decide +kernel
theorem dL_law_513 : decode cL_law 513 = .ok (.if_icmp .eq 760, 3) := by decide +kernel
theorem dL_law_516 : decode cL_law 516 = .ok (.iconst 0, 1) := by decide +kernel
theorem dL_law_517 : decode cL_law 517 = .ok (.ireturn, 1) := by decide +kernel
theorem dL_law_518 : decode cL_law 518 = .ok (.aload_n 1, 1) := by decide +kernel
theorem dL_law_519 : decode cL_law 519 = .ok (.aload_n 0, 1) := by decide +kernel
theorem dL_law_520 : decode cL_law 520 = .ok (.iload_n 3, 1) := by decide +kernel
theorem dL_law_521 : decode cL_law 521 = .ok (.iconst 1, 1) := by decide +kernel
theorem dL_law_522 : decode cL_law 522 = .ok (.iadd, 1) := by decide +kernel
theorem dL_law_523 : decode cL_law 523 = .ok (.iaload, 1) := by decide +kernel
theorem dL_law_524 : decode cL_law 524 = .ok (.aload_n 0, 1) := by decide +kernel
theorem dL_law_525 : decode cL_law 525 = .ok (.iload_n 3, 1) := by decide +kernel
theorem dL_law_526 : decode cL_law 526 = .ok (.iconst 2, 1) := by decide +kernel
theorem dL_law_527 : decode cL_law 527 = .ok (.iadd, 1) := by decide +kernel
theorem dL_law_528 : decode cL_law 528 = .ok (.iaload, 1) := by decide +kernel
theorem dL_law_529 : decode cL_law 529 = .ok (.invokevirtual 64, 3) := by decide +kernel
theorem dL_law_532 : decode cL_law 532 = .ok (.aload_n 2, 1) := by decide +kernel
theorem dL_law_533 : decode cL_law 533 = .ok (.aload_n 0, 1) := by decide +kernel
theorem dL_law_534 : decode cL_law 534 = .ok (.iload_n 3, 1) := by decide +kernel
theorem dL_law_535 : decode cL_law 535 = .ok (.iconst 1, 1) := by decide +kernel
theorem dL_law_536 : decode cL_law 536 = .ok (.iadd, 1) := by decide +kernel
theorem dL_law_537 : decode cL_law 537 = .ok (.iaload, 1) := by decide +kernel
theorem dL_law_538 : decode cL_law 538 = .ok (.aload_n 0, 1) := by decide +kernel
theorem dL_law_539 : decode cL_law 539 = .ok (.iload_n 3, 1) := by decide +kernel
theorem dL_law_540 : decode cL_law 540 = .ok (.iconst 2, 1) := by decide +kernel
theorem dL_law_541 : decode cL_law 541 = .ok (.iadd, 1) := by decide +kernel
theorem dL_law_542 : decode cL_law 542 = .ok (.iaload, 1) := by decide +kernel
theorem dL_law_543 : decode cL_law 543 = .ok (.invokevirtual 67, 3) := by decide +kernel
theorem dL_law_546 : decode cL_law 546 = .ok (.if_icmp .eq 727, 3) := by decide +kernel
theorem dL_law_549 : decode cL_law 549 = .ok (.iconst 0, 1) := by decide +kernel
theorem dL_law_550 : decode cL_law 550 = .ok (.ireturn, 1) := by decide +kernel
theorem dL_law_551 : decode cL_law 551 = .ok (.aload_n 1, 1) := by decide +kernel
theorem dL_law_552 : decode cL_law 552 = .ok (.aload_n 0, 1) := by decide +kernel
theorem dL_law_553 : decode cL_law 553 = .ok (.iload_n 3, 1) := by decide +kernel
theorem dL_law_554 : decode cL_law 554 = .ok (.iconst 1, 1) := by decide +kernel
theorem dL_law_555 : decode cL_law 555 = .ok (.iadd, 1) := by decide +kernel
theorem dL_law_556 : decode cL_law 556 = .ok (.iaload, 1) := by decide +kernel
theorem dL_law_557 : decode cL_law 557 = .ok (.invokevirtual 68, 3) := by decide +kernel
theorem dL_law_560 : decode cL_law 560 = .ok (.aload_n 2, 1) := by decide +kernel
theorem dL_law_561 : decode cL_law 561 = .ok (.aload_n 0, 1) := by decide +kernel
theorem dL_law_562 : decode cL_law 562 = .ok (.iload_n 3, 1) := by decide +kernel
theorem dL_law_563 : decode cL_law 563 = .ok (.iconst 1, 1) := by decide +kernel
theorem dL_law_564 : decode cL_law 564 = .ok (.iadd, 1) := by decide +kernel
theorem dL_law_565 : decode cL_law 565 = .ok (.iaload, 1) := by decide +kernel
theorem dL_law_566 : decode cL_law 566 = .ok (.invokevirtual 71, 3) := by decide +kernel
theorem dL_law_569 : decode cL_law 569 = .ok (.if_icmp .eq 704, 3) := by decide +kernel
theorem dL_law_572 : decode cL_law 572 = .ok (.iconst 0, 1) := by decide +kernel
theorem dL_law_573 : decode cL_law 573 = .ok (.ireturn, 1) := by decide +kernel
theorem dL_law_574 : decode cL_law 574 = .ok (.aload_n 1, 1) := by decide +kernel
theorem dL_law_575 : decode cL_law 575 = .ok (.aload_n 0, 1) := by decide +kernel
theorem dL_law_576 : decode cL_law 576 = .ok (.iload_n 3, 1) := by decide +kernel
theorem dL_law_577 : decode cL_law 577 = .ok (.iconst 1, 1) := by decide +kernel
theorem dL_law_578 : decode cL_law 578 = .ok (.iadd, 1) := by decide +kernel
theorem dL_law_579 : decode cL_law 579 = .ok (.iaload, 1) := by decide +kernel
theorem dL_law_580 : decode cL_law 580 = .ok (.aload_n 0, 1) := by decide +kernel
theorem dL_law_581 : decode cL_law 581 = .ok (.iload_n 3, 1) := by decide +kernel
theorem dL_law_582 : decode cL_law 582 = .ok (.iconst 2, 1) := by decide +kernel
theorem dL_law_583 : decode cL_law 583 = .ok (.iadd, 1) := by decide +kernel
theorem dL_law_584 : decode cL_law 584 = .ok (.iaload, 1) := by decide +kernel
theorem dL_law_585 : decode cL_law 585 = .ok (.invokevirtual 72, 3) := by decide +kernel
theorem dL_law_588 : decode cL_law 588 = .ok (.aload_n 2, 1) := by decide +kernel
theorem dL_law_589 : decode cL_law 589 = .ok (.aload_n 0, 1) := by decide +kernel
theorem dL_law_590 : decode cL_law 590 = .ok (.iload_n 3, 1) := by decide +kernel
theorem dL_law_591 : decode cL_law 591 = .ok (.iconst 1, 1) := by decide +kernel
theorem dL_law_592 : decode cL_law 592 = .ok (.iadd, 1) := by decide +kernel
theorem dL_law_593 : decode cL_law 593 = .ok (.iaload, 1) := by decide +kernel
theorem dL_law_594 : decode cL_law 594 = .ok (.aload_n 0, 1) := by decide +kernel
theorem dL_law_595 : decode cL_law 595 = .ok (.iload_n 3, 1) := by decide +kernel
theorem dL_law_596 : decode cL_law 596 = .ok (.iconst 2, 1) := by decide +kernel
theorem dL_law_597 : decode cL_law 597 = .ok (.iadd, 1) := by decide +kernel
theorem dL_law_598 : decode cL_law 598 = .ok (.iaload, 1) := by decide +kernel
theorem dL_law_599 : decode cL_law 599 = .ok (.invokevirtual 75, 3) := by decide +kernel
theorem dL_law_602 : decode cL_law 602 = .ok (.if_icmp .eq 671, 3) := by decide +kernel
theorem dL_law_605 : decode cL_law 605 = .ok (.iconst 0, 1) := by decide +kernel
theorem dL_law_606 : decode cL_law 606 = .ok (.ireturn, 1) := by decide +kernel
theorem dL_law_607 : decode cL_law 607 = .ok (.aload_n 1, 1) := by decide +kernel
theorem dL_law_608 : decode cL_law 608 = .ok (.aload_n 0, 1) := by decide +kernel
theorem dL_law_609 : decode cL_law 609 = .ok (.iload_n 3, 1) := by decide +kernel
theorem dL_law_610 : decode cL_law 610 = .ok (.iconst 1, 1) := by decide +kernel
theorem dL_law_611 : decode cL_law 611 = .ok (.iadd, 1) := by decide +kernel
theorem dL_law_612 : decode cL_law 612 = .ok (.iaload, 1) := by decide +kernel
theorem dL_law_613 : decode cL_law 613 = .ok (.aload_n 0, 1) := by decide +kernel
theorem dL_law_614 : decode cL_law 614 = .ok (.iload_n 3, 1) := by decide +kernel
theorem dL_law_615 : decode cL_law 615 = .ok (.iconst 2, 1) := by decide +kernel
theorem dL_law_616 : decode cL_law 616 = .ok (.iadd, 1) := by decide +kernel
theorem dL_law_617 : decode cL_law 617 = .ok (.iaload, 1) := by decide +kernel
theorem dL_law_618 : decode cL_law 618 = .ok (.invokevirtual 76, 3) := by decide +kernel
theorem dL_law_621 : decode cL_law 621 = .ok (.aload_n 2, 1) := by decide +kernel
theorem dL_law_622 : decode cL_law 622 = .ok (.aload_n 0, 1) := by decide +kernel
theorem dL_law_623 : decode cL_law 623 = .ok (.iload_n 3, 1) := by decide +kernel
theorem dL_law_624 : decode cL_law 624 = .ok (.iconst 1, 1) := by decide +kernel
theorem dL_law_625 : decode cL_law 625 = .ok (.iadd, 1) := by decide +kernel
theorem dL_law_626 : decode cL_law 626 = .ok (.iaload, 1) := by decide +kernel
theorem dL_law_627 : decode cL_law 627 = .ok (.aload_n 0, 1) := by decide +kernel
theorem dL_law_628 : decode cL_law 628 = .ok (.iload_n 3, 1) := by decide +kernel
theorem dL_law_629 : decode cL_law 629 = .ok (.iconst 2, 1) := by decide +kernel
theorem dL_law_630 : decode cL_law 630 = .ok (.iadd, 1) := by decide +kernel
theorem dL_law_631 : decode cL_law 631 = .ok (.iaload, 1) := by decide +kernel
theorem dL_law_632 : decode cL_law 632 = .ok (.invokevirtual 79, 3) := by decide +kernel
theorem dL_law_635 : decode cL_law 635 = .ok (.if_icmp .eq 638, 3) := by decide +kernel
theorem dL_law_638 : decode cL_law 638 = .ok (.iconst 0, 1) := by decide +kernel
theorem dL_law_639 : decode cL_law 639 = .ok (.ireturn, 1) := by decide +kernel
theorem dL_law_640 : decode cL_law 640 = .ok (.aload_n 1, 1) := by decide +kernel
theorem dL_law_641 : decode cL_law 641 = .ok (.aload_n 0, 1) := by decide +kernel
theorem dL_law_642 : decode cL_law 642 = .ok (.iload_n 3, 1) := by decide +kernel
theorem dL_law_643 : decode cL_law 643 = .ok (.iconst 1, 1) := by decide +kernel
theorem dL_law_644 : decode cL_law 644 = .ok (.iadd, 1) := by decide +kernel
theorem dL_law_645 : decode cL_law 645 = .ok (.iaload, 1) := by decide +kernel
theorem dL_law_646 : decode cL_law 646 = .ok (.aload_n 0, 1) := by decide +kernel
theorem dL_law_647 : decode cL_law 647 = .ok (.iload_n 3, 1) := by decide +kernel
theorem dL_law_648 : decode cL_law 648 = .ok (.iconst 2, 1) := by decide +kernel
theorem dL_law_649 : decode cL_law 649 = .ok (.iadd, 1) := by decide +kernel
theorem dL_law_650 : decode cL_law 650 = .ok (.iaload, 1) := by decide +kernel
theorem dL_law_651 : decode cL_law 651 = .ok (.invokevirtual 80, 3) := by decide +kernel
theorem dL_law_654 : decode cL_law 654 = .ok (.aload_n 2, 1) := by decide +kernel
theorem dL_law_655 : decode cL_law 655 = .ok (.aload_n 0, 1) := by decide +kernel
theorem dL_law_656 : decode cL_law 656 = .ok (.iload_n 3, 1) := by decide +kernel
theorem dL_law_657 : decode cL_law 657 = .ok (.iconst 1, 1) := by decide +kernel
theorem dL_law_658 : decode cL_law 658 = .ok (.iadd, 1) := by decide +kernel
theorem dL_law_659 : decode cL_law 659 = .ok (.iaload, 1) := by decide +kernel
theorem dL_law_660 : decode cL_law 660 = .ok (.aload_n 0, 1) := by decide +kernel
theorem dL_law_661 : decode cL_law 661 = .ok (.iload_n 3, 1) := by decide +kernel
theorem dL_law_662 : decode cL_law 662 = .ok (.iconst 2, 1) := by decide +kernel
theorem dL_law_663 : decode cL_law 663 = .ok (.iadd, 1) := by decide +kernel
theorem dL_law_664 : decode cL_law 664 = .ok (.iaload, 1) := by decide +kernel
theorem dL_law_665 : decode cL_law 665 = .ok (.invokevirtual 83, 3) := by decide +kernel
theorem dL_law_668 : decode cL_law 668 = .ok (.if_icmp .eq 605, 3) := by decide +kernel
theorem dL_law_671 : decode cL_law 671 = .ok (.iconst 0, 1) := by decide +kernel
theorem dL_law_672 : decode cL_law 672 = .ok (.ireturn, 1) := by decide +kernel
theorem dL_law_673 : decode cL_law 673 = .ok (.aload_n 1, 1) := by decide +kernel
theorem dL_law_674 : decode cL_law 674 = .ok (.aload_n 0, 1) := by decide +kernel
theorem dL_law_675 : decode cL_law 675 = .ok (.iload_n 3, 1) := by decide +kernel
theorem dL_law_676 : decode cL_law 676 = .ok (.iconst 1, 1) := by decide +kernel
theorem dL_law_677 : decode cL_law 677 = .ok (.iadd, 1) := by decide +kernel
theorem dL_law_678 : decode cL_law 678 = .ok (.iaload, 1) := by decide +kernel
theorem dL_law_679 : decode cL_law 679 = .ok (.invokevirtual 84, 3) := by decide +kernel
theorem dL_law_682 : decode cL_law 682 = .ok (.aload_n 2, 1) := by decide +kernel
theorem dL_law_683 : decode cL_law 683 = .ok (.aload_n 0, 1) := by decide +kernel
theorem dL_law_684 : decode cL_law 684 = .ok (.iload_n 3, 1) := by decide +kernel
theorem dL_law_685 : decode cL_law 685 = .ok (.iconst 1, 1) := by decide +kernel
theorem dL_law_686 : decode cL_law 686 = .ok (.iadd, 1) := by decide +kernel
theorem dL_law_687 : decode cL_law 687 = .ok (.iaload, 1) := by decide +kernel
theorem dL_law_688 : decode cL_law 688 = .ok (.invokevirtual 87, 3) := by decide +kernel
theorem dL_law_691 : decode cL_law 691 = .ok (.if_icmp .eq 582, 3) := by decide +kernel
theorem dL_law_694 : decode cL_law 694 = .ok (.iconst 0, 1) := by decide +kernel
theorem dL_law_695 : decode cL_law 695 = .ok (.ireturn, 1) := by decide +kernel
theorem dL_law_696 : decode cL_law 696 = .ok (.aload_n 1, 1) := by decide +kernel
theorem dL_law_697 : decode cL_law 697 = .ok (.invokevirtual 88, 3) := by decide +kernel
theorem dL_law_700 : decode cL_law 700 = .ok (.aload_n 2, 1) := by decide +kernel
theorem dL_law_701 : decode cL_law 701 = .ok (.invokevirtual 91, 3) := by decide +kernel
theorem dL_law_704 : decode cL_law 704 = .ok (.if_icmp .eq 569, 3) := by decide +kernel
theorem dL_law_707 : decode cL_law 707 = .ok (.iconst 0, 1) := by decide +kernel
theorem dL_law_708 : decode cL_law 708 = .ok (.ireturn, 1) := by decide +kernel
theorem dL_law_709 : decode cL_law 709 = .ok (.aload_n 1, 1) := by decide +kernel
theorem dL_law_710 : decode cL_law 710 = .ok (.aload_n 0, 1) := by decide +kernel
theorem dL_law_711 : decode cL_law 711 = .ok (.iload_n 3, 1) := by decide +kernel
theorem dL_law_712 : decode cL_law 712 = .ok (.iconst 1, 1) := by decide +kernel
theorem dL_law_713 : decode cL_law 713 = .ok (.iadd, 1) := by decide +kernel
theorem dL_law_714 : decode cL_law 714 = .ok (.iaload, 1) := by decide +kernel
theorem dL_law_715 : decode cL_law 715 = .ok (.invokevirtual 92, 3) := by decide +kernel
theorem dL_law_718 : decode cL_law 718 = .ok (.aload_n 2, 1) := by decide +kernel
theorem dL_law_719 : decode cL_law 719 = .ok (.aload_n 0, 1) := by decide +kernel
theorem dL_law_720 : decode cL_law 720 = .ok (.iload_n 3, 1) := by decide +kernel
theorem dL_law_721 : decode cL_law 721 = .ok (.iconst 1, 1) := by decide +kernel
theorem dL_law_722 : decode cL_law 722 = .ok (.iadd, 1) := by decide +kernel
theorem dL_law_723 : decode cL_law 723 = .ok (.iaload, 1) := by decide +kernel
theorem dL_law_724 : decode cL_law 724 = .ok (.invokevirtual 95, 3) := by decide +kernel
theorem dL_law_727 : decode cL_law 727 = .ok (.if_icmp .eq 546, 3) := by decide +kernel
theorem dL_law_730 : decode cL_law 730 = .ok (.iconst 0, 1) := by decide +kernel
theorem dL_law_731 : decode cL_law 731 = .ok (.ireturn, 1) := by decide +kernel
theorem dL_law_732 : decode cL_law 732 = .ok (.aload_n 1, 1) := by decide +kernel
theorem dL_law_733 : decode cL_law 733 = .ok (.aload_n 0, 1) := by decide +kernel
theorem dL_law_734 : decode cL_law 734 = .ok (.iload_n 3, 1) := by decide +kernel
theorem dL_law_735 : decode cL_law 735 = .ok (.iconst 1, 1) := by decide +kernel
theorem dL_law_736 : decode cL_law 736 = .ok (.iadd, 1) := by decide +kernel
theorem dL_law_737 : decode cL_law 737 = .ok (.iaload, 1) := by decide +kernel
theorem dL_law_738 : decode cL_law 738 = .ok (.aload_n 0, 1) := by decide +kernel
theorem dL_law_739 : decode cL_law 739 = .ok (.iload_n 3, 1) := by decide +kernel
theorem dL_law_740 : decode cL_law 740 = .ok (.iconst 2, 1) := by decide +kernel
theorem dL_law_741 : decode cL_law 741 = .ok (.iadd, 1) := by decide +kernel
theorem dL_law_742 : decode cL_law 742 = .ok (.iaload, 1) := by decide +kernel
theorem dL_law_743 : decode cL_law 743 = .ok (.invokevirtual 96, 3) := by decide +kernel
theorem dL_law_746 : decode cL_law 746 = .ok (.aload_n 2, 1) := by decide +kernel
theorem dL_law_747 : decode cL_law 747 = .ok (.aload_n 0, 1) := by decide +kernel
theorem dL_law_748 : decode cL_law 748 = .ok (.iload_n 3, 1) := by decide +kernel
theorem dL_law_749 : decode cL_law 749 = .ok (.iconst 1, 1) := by decide +kernel
theorem dL_law_750 : decode cL_law 750 = .ok (.iadd, 1) := by decide +kernel
theorem dL_law_751 : decode cL_law 751 = .ok (.iaload, 1) := by decide +kernel
theorem dL_law_752 : decode cL_law 752 = .ok (.aload_n 0, 1) := by decide +kernel
theorem dL_law_753 : decode cL_law 753 = .ok (.iload_n 3, 1) := by decide +kernel
theorem dL_law_754 : decode cL_law 754 = .ok (.iconst 2, 1) := by decide +kernel
theorem dL_law_755 : decode cL_law 755 = .ok (.iadd, 1) := by decide +kernel
theorem dL_law_756 : decode cL_law 756 = .ok (.iaload, 1) := by decide +kernel
theorem dL_law_757 : decode cL_law 757 = .ok (.invokevirtual 99, 3) := by decide +kernel
theorem dL_law_760 : decode cL_law 760 = .ok (.if_icmp .eq 513, 3) := by decide +kernel
theorem dL_law_763 : decode cL_law 763 = .ok (.iconst 0, 1) := by decide +kernel
theorem dL_law_764 : decode cL_law 764 = .ok (.ireturn, 1) := by decide +kernel
theorem dL_law_765 : decode cL_law 765 = .ok (.aload_n 1, 1) := by decide +kernel
theorem dL_law_766 : decode cL_law 766 = .ok (.aload_n 0, 1) := by decide +kernel
theorem dL_law_767 : decode cL_law 767 = .ok (.iload_n 3, 1) := by decide +kernel
theorem dL_law_768 : decode cL_law 768 = .ok (.iconst 1, 1) := by decide +kernel
theorem dL_law_769 : decode cL_law 769 = .ok (.iadd, 1) := by decide +kernel
theorem dL_law_770 : decode cL_law 770 = .ok (.iaload, 1) := by decide +kernel
theorem dL_law_771 : decode cL_law 771 = .ok (.aload_n 0, 1) := by decide +kernel
theorem dL_law_772 : decode cL_law 772 = .ok (.iload_n 3, 1) := by decide +kernel
theorem dL_law_773 : decode cL_law 773 = .ok (.iconst 2, 1) := by decide +kernel
theorem dL_law_774 : decode cL_law 774 = .ok (.iadd, 1) := by decide +kernel
theorem dL_law_775 : decode cL_law 775 = .ok (.iaload, 1) := by decide +kernel
theorem dL_law_776 : decode cL_law 776 = .ok (.invokevirtual 100, 3) := by decide +kernel
theorem dL_law_779 : decode cL_law 779 = .ok (.aload_n 2, 1) := by decide +kernel
theorem dL_law_780 : decode cL_law 780 = .ok (.aload_n 0, 1) := by decide +kernel
theorem dL_law_781 : decode cL_law 781 = .ok (.iload_n 3, 1) := by decide +kernel
theorem dL_law_782 : decode cL_law 782 = .ok (.iconst 1, 1) := by decide +kernel
theorem dL_law_783 : decode cL_law 783 = .ok (.iadd, 1) := by decide +kernel
theorem dL_law_784 : decode cL_law 784 = .ok (.iaload, 1) := by decide +kernel
theorem dL_law_785 : decode cL_law 785 = .ok (.aload_n 0, 1) := by decide +kernel
theorem dL_law_786 : decode cL_law 786 = .ok (.iload_n 3, 1) := by decide +kernel
theorem dL_law_787 : decode cL_law 787 = .ok (.iconst 2, 1) := by decide +kernel
theorem dL_law_788 : decode cL_law 788 = .ok (.iadd, 1) := by decide +kernel
theorem dL_law_789 : decode cL_law 789 = .ok (.iaload, 1) := by decide +kernel
theorem dL_law_790 : decode cL_law 790 = .ok (.invokevirtual 103, 3) := by decide +kernel
theorem dL_law_793 : decode cL_law 793 = .ok (.if_icmp .eq 480, 3) := by decide +kernel
theorem dL_law_796 : decode cL_law 796 = .ok (.iconst 0, 1) := by decide +kernel
theorem dL_law_797 : decode cL_law 797 = .ok (.ireturn, 1) := by decide +kernel
theorem dL_law_798 : decode cL_law 798 = .ok (.aload_n 1, 1) := by decide +kernel
theorem dL_law_799 : decode cL_law 799 = .ok (.invokevirtual 104, 3) := by decide +kernel
theorem dL_law_802 : decode cL_law 802 = .ok (.aload_n 2, 1) := by decide +kernel
theorem dL_law_803 : decode cL_law 803 = .ok (.invokevirtual 107, 3) := by decide +kernel
theorem dL_law_806 : decode cL_law 806 = .ok (.if_icmp .eq 467, 3) := by decide +kernel
theorem dL_law_809 : decode cL_law 809 = .ok (.iconst 0, 1) := by decide +kernel
theorem dL_law_810 : decode cL_law 810 = .ok (.ireturn, 1) := by decide +kernel
theorem dL_law_811 : decode cL_law 811 = .ok (.aload_n 1, 1) := by decide +kernel
theorem dL_law_812 : decode cL_law 812 = .ok (.aload_n 0, 1) := by decide +kernel
theorem dL_law_813 : decode cL_law 813 = .ok (.iload_n 3, 1) := by decide +kernel
theorem dL_law_814 : decode cL_law 814 = .ok (.iconst 1, 1) := by decide +kernel
theorem dL_law_815 : decode cL_law 815 = .ok (.iadd, 1) := by decide +kernel
theorem dL_law_816 : decode cL_law 816 = .ok (.iaload, 1) := by decide +kernel
theorem dL_law_817 : decode cL_law 817 = .ok (.invokevirtual 108, 3) := by decide +kernel
theorem dL_law_820 : decode cL_law 820 = .ok (.aload_n 2, 1) := by decide +kernel
theorem dL_law_821 : decode cL_law 821 = .ok (.aload_n 0, 1) := by decide +kernel
theorem dL_law_822 : decode cL_law 822 = .ok (.iload_n 3, 1) := by decide +kernel
theorem dL_law_823 : decode cL_law 823 = .ok (.iconst 1, 1) := by decide +kernel
theorem dL_law_824 : decode cL_law 824 = .ok (.iadd, 1) := by decide +kernel
theorem dL_law_825 : decode cL_law 825 = .ok (.iaload, 1) := by decide +kernel
theorem dL_law_826 : decode cL_law 826 = .ok (.invokevirtual 111, 3) := by decide +kernel
theorem dL_law_829 : decode cL_law 829 = .ok (.if_icmp .eq 444, 3) := by decide +kernel
theorem dL_law_832 : decode cL_law 832 = .ok (.iconst 0, 1) := by decide +kernel
theorem dL_law_833 : decode cL_law 833 = .ok (.ireturn, 1) := by decide +kernel
theorem dL_law_834 : decode cL_law 834 = .ok (.aload_n 1, 1) := by decide +kernel
theorem dL_law_835 : decode cL_law 835 = .ok (.invokevirtual 112, 3) := by decide +kernel
theorem dL_law_838 : decode cL_law 838 = .ok (.aload_n 2, 1) := by decide +kernel
theorem dL_law_839 : decode cL_law 839 = .ok (.invokevirtual 115, 3) := by decide +kernel
theorem dL_law_842 : decode cL_law 842 = .ok (.if_icmp .eq 431, 3) := by decide +kernel
theorem dL_law_845 : decode cL_law 845 = .ok (.iconst 0, 1) := by decide +kernel
theorem dL_law_846 : decode cL_law 846 = .ok (.ireturn, 1) := by decide +kernel
theorem dL_law_847 : decode cL_law 847 = .ok (.aload_n 1, 1) := by decide +kernel
theorem dL_law_848 : decode cL_law 848 = .ok (.aload_n 0, 1) := by decide +kernel
theorem dL_law_849 : decode cL_law 849 = .ok (.iload_n 3, 1) := by decide +kernel
theorem dL_law_850 : decode cL_law 850 = .ok (.iconst 1, 1) := by decide +kernel
theorem dL_law_851 : decode cL_law 851 = .ok (.iadd, 1) := by decide +kernel
theorem dL_law_852 : decode cL_law 852 = .ok (.iaload, 1) := by decide +kernel
theorem dL_law_853 : decode cL_law 853 = .ok (.aload_n 0, 1) := by decide +kernel
theorem dL_law_854 : decode cL_law 854 = .ok (.iload_n 3, 1) := by decide +kernel
theorem dL_law_855 : decode cL_law 855 = .ok (.iconst 2, 1) := by decide +kernel
theorem dL_law_856 : decode cL_law 856 = .ok (.iadd, 1) := by decide +kernel
theorem dL_law_857 : decode cL_law 857 = .ok (.iaload, 1) := by decide +kernel
theorem dL_law_858 : decode cL_law 858 = .ok (.invokevirtual 116, 3) := by decide +kernel
theorem dL_law_861 : decode cL_law 861 = .ok (.aload_n 2, 1) := by decide +kernel
theorem dL_law_862 : decode cL_law 862 = .ok (.aload_n 0, 1) := by decide +kernel
theorem dL_law_863 : decode cL_law 863 = .ok (.iload_n 3, 1) := by decide +kernel
theorem dL_law_864 : decode cL_law 864 = .ok (.iconst 1, 1) := by decide +kernel
theorem dL_law_865 : decode cL_law 865 = .ok (.iadd, 1) := by decide +kernel
theorem dL_law_866 : decode cL_law 866 = .ok (.iaload, 1) := by decide +kernel
theorem dL_law_867 : decode cL_law 867 = .ok (.aload_n 0, 1) := by decide +kernel
theorem dL_law_868 : decode cL_law 868 = .ok (.iload_n 3, 1) := by decide +kernel
theorem dL_law_869 : decode cL_law 869 = .ok (.iconst 2, 1) := by decide +kernel
theorem dL_law_870 : decode cL_law 870 = .ok (.iadd, 1) := by decide +kernel
theorem dL_law_871 : decode cL_law 871 = .ok (.iaload, 1) := by decide +kernel
theorem dL_law_872 : decode cL_law 872 = .ok (.invokevirtual 120, 3) := by decide +kernel
theorem dL_law_875 : decode cL_law 875 = .ok (.lcmp, 1) := by decide +kernel
theorem dL_law_876 : decode cL_law 876 = .ok (.ifCond .eq 397, 3) := by decide +kernel
theorem dL_law_879 : decode cL_law 879 = .ok (.iconst 0, 1) := by decide +kernel
theorem dL_law_880 : decode cL_law 880 = .ok (.ireturn, 1) := by decide +kernel
theorem dL_law_881 : decode cL_law 881 = .ok (.aload_n 1, 1) := by decide +kernel
theorem dL_law_882 : decode cL_law 882 = .ok (.aload_n 0, 1) := by decide +kernel
theorem dL_law_883 : decode cL_law 883 = .ok (.iload_n 3, 1) := by decide +kernel
theorem dL_law_884 : decode cL_law 884 = .ok (.iconst 1, 1) := by decide +kernel
theorem dL_law_885 : decode cL_law 885 = .ok (.iadd, 1) := by decide +kernel
theorem dL_law_886 : decode cL_law 886 = .ok (.iaload, 1) := by decide +kernel
theorem dL_law_887 : decode cL_law 887 = .ok (.aload_n 0, 1) := by decide +kernel
theorem dL_law_888 : decode cL_law 888 = .ok (.iload_n 3, 1) := by decide +kernel
theorem dL_law_889 : decode cL_law 889 = .ok (.iconst 2, 1) := by decide +kernel
theorem dL_law_890 : decode cL_law 890 = .ok (.iadd, 1) := by decide +kernel
theorem dL_law_891 : decode cL_law 891 = .ok (.iaload, 1) := by decide +kernel
theorem dL_law_892 : decode cL_law 892 = .ok (.aload_n 0, 1) := by decide +kernel
theorem dL_law_893 : decode cL_law 893 = .ok (.iload_n 3, 1) := by decide +kernel
theorem dL_law_894 : decode cL_law 894 = .ok (.iconst 3, 1) := by decide +kernel
theorem dL_law_895 : decode cL_law 895 = .ok (.iadd, 1) := by decide +kernel
theorem dL_law_896 : decode cL_law 896 = .ok (.iaload, 1) := by decide +kernel
theorem dL_law_897 : decode cL_law 897 = .ok (.invokevirtual 121, 3) := by decide +kernel
theorem dL_law_900 : decode cL_law 900 = .ok (.aload_n 2, 1) := by decide +kernel
theorem dL_law_901 : decode cL_law 901 = .ok (.aload_n 0, 1) := by decide +kernel
theorem dL_law_902 : decode cL_law 902 = .ok (.iload_n 3, 1) := by decide +kernel
theorem dL_law_903 : decode cL_law 903 = .ok (.iconst 1, 1) := by decide +kernel
theorem dL_law_904 : decode cL_law 904 = .ok (.iadd, 1) := by decide +kernel
theorem dL_law_905 : decode cL_law 905 = .ok (.iaload, 1) := by decide +kernel
theorem dL_law_906 : decode cL_law 906 = .ok (.aload_n 0, 1) := by decide +kernel
theorem dL_law_907 : decode cL_law 907 = .ok (.iload_n 3, 1) := by decide +kernel
theorem dL_law_908 : decode cL_law 908 = .ok (.iconst 2, 1) := by decide +kernel
theorem dL_law_909 : decode cL_law 909 = .ok (.iadd, 1) := by decide +kernel
theorem dL_law_910 : decode cL_law 910 = .ok (.iaload, 1) := by decide +kernel
theorem dL_law_911 : decode cL_law 911 = .ok (.aload_n 0, 1) := by decide +kernel
theorem dL_law_912 : decode cL_law 912 = .ok (.iload_n 3, 1) := by decide +kernel
theorem dL_law_913 : decode cL_law 913 = .ok (.iconst 3, 1) := by decide +kernel
theorem dL_law_914 : decode cL_law 914 = .ok (.iadd, 1) := by decide +kernel
theorem dL_law_915 : decode cL_law 915 = .ok (.iaload, 1) := by decide +kernel
theorem dL_law_916 : decode cL_law 916 = .ok (.invokevirtual 125, 3) := by decide +kernel
theorem dL_law_919 : decode cL_law 919 = .ok (.lcmp, 1) := by decide +kernel
theorem dL_law_920 : decode cL_law 920 = .ok (.ifCond .eq 353, 3) := by decide +kernel
theorem dL_law_923 : decode cL_law 923 = .ok (.iconst 0, 1) := by decide +kernel
theorem dL_law_924 : decode cL_law 924 = .ok (.ireturn, 1) := by decide +kernel
theorem dL_law_925 : decode cL_law 925 = .ok (.aload_n 1, 1) := by decide +kernel
theorem dL_law_926 : decode cL_law 926 = .ok (.aload_n 0, 1) := by decide +kernel
theorem dL_law_927 : decode cL_law 927 = .ok (.iload_n 3, 1) := by decide +kernel
theorem dL_law_928 : decode cL_law 928 = .ok (.iconst 1, 1) := by decide +kernel
theorem dL_law_929 : decode cL_law 929 = .ok (.iadd, 1) := by decide +kernel
theorem dL_law_930 : decode cL_law 930 = .ok (.iaload, 1) := by decide +kernel
theorem dL_law_931 : decode cL_law 931 = .ok (.aload_n 0, 1) := by decide +kernel
theorem dL_law_932 : decode cL_law 932 = .ok (.iload_n 3, 1) := by decide +kernel
theorem dL_law_933 : decode cL_law 933 = .ok (.iconst 2, 1) := by decide +kernel
theorem dL_law_934 : decode cL_law 934 = .ok (.iadd, 1) := by decide +kernel
theorem dL_law_935 : decode cL_law 935 = .ok (.iaload, 1) := by decide +kernel
theorem dL_law_936 : decode cL_law 936 = .ok (.aload_n 0, 1) := by decide +kernel
theorem dL_law_937 : decode cL_law 937 = .ok (.iload_n 3, 1) := by decide +kernel
theorem dL_law_938 : decode cL_law 938 = .ok (.iconst 3, 1) := by decide +kernel
theorem dL_law_939 : decode cL_law 939 = .ok (.iadd, 1) := by decide +kernel
theorem dL_law_940 : decode cL_law 940 = .ok (.iaload, 1) := by decide +kernel
theorem dL_law_941 : decode cL_law 941 = .ok (.aload_n 0, 1) := by decide +kernel
theorem dL_law_942 : decode cL_law 942 = .ok (.iload_n 3, 1) := by decide +kernel
theorem dL_law_943 : decode cL_law 943 = .ok (.iconst 4, 1) := by decide +kernel
theorem dL_law_944 : decode cL_law 944 = .ok (.iadd, 1) := by decide +kernel
theorem dL_law_945 : decode cL_law 945 = .ok (.iaload, 1) := by decide +kernel
theorem dL_law_946 : decode cL_law 946 = .ok (.invokevirtual 126, 3) := by decide +kernel
theorem dL_law_949 : decode cL_law 949 = .ok (.aload_n 2, 1) := by decide +kernel
theorem dL_law_950 : decode cL_law 950 = .ok (.aload_n 0, 1) := by decide +kernel
theorem dL_law_951 : decode cL_law 951 = .ok (.iload_n 3, 1) := by decide +kernel
theorem dL_law_952 : decode cL_law 952 = .ok (.iconst 1, 1) := by decide +kernel
theorem dL_law_953 : decode cL_law 953 = .ok (.iadd, 1) := by decide +kernel
theorem dL_law_954 : decode cL_law 954 = .ok (.iaload, 1) := by decide +kernel
theorem dL_law_955 : decode cL_law 955 = .ok (.aload_n 0, 1) := by decide +kernel
theorem dL_law_956 : decode cL_law 956 = .ok (.iload_n 3, 1) := by decide +kernel
theorem dL_law_957 : decode cL_law 957 = .ok (.iconst 2, 1) := by decide +kernel
theorem dL_law_958 : decode cL_law 958 = .ok (.iadd, 1) := by decide +kernel
theorem dL_law_959 : decode cL_law 959 = .ok (.iaload, 1) := by decide +kernel
theorem dL_law_960 : decode cL_law 960 = .ok (.aload_n 0, 1) := by decide +kernel
theorem dL_law_961 : decode cL_law 961 = .ok (.iload_n 3, 1) := by decide +kernel
theorem dL_law_962 : decode cL_law 962 = .ok (.iconst 3, 1) := by decide +kernel
theorem dL_law_963 : decode cL_law 963 = .ok (.iadd, 1) := by decide +kernel
theorem dL_law_964 : decode cL_law 964 = .ok (.iaload, 1) := by decide +kernel
theorem dL_law_965 : decode cL_law 965 = .ok (.aload_n 0, 1) := by decide +kernel
theorem dL_law_966 : decode cL_law 966 = .ok (.iload_n 3, 1) := by decide +kernel
theorem dL_law_967 : decode cL_law 967 = .ok (.iconst 4, 1) := by decide +kernel
theorem dL_law_968 : decode cL_law 968 = .ok (.iadd, 1) := by decide +kernel
theorem dL_law_969 : decode cL_law 969 = .ok (.iaload, 1) := by decide +kernel
theorem dL_law_970 : decode cL_law 970 = .ok (.invokevirtual 130, 3) := by decide +kernel
theorem dL_law_973 : decode cL_law 973 = .ok (.if_icmp .eq 300, 3) := by decide +kernel
theorem dL_law_976 : decode cL_law 976 = .ok (.iconst 0, 1) := by decide +kernel
theorem dL_law_977 : decode cL_law 977 = .ok (.ireturn, 1) := by decide +kernel
theorem dL_law_978 : decode cL_law 978 = .ok (.aload_n 1, 1) := by decide +kernel
theorem dL_law_979 : decode cL_law 979 = .ok (.aload_n 0, 1) := by decide +kernel
theorem dL_law_980 : decode cL_law 980 = .ok (.iload_n 3, 1) := by decide +kernel
theorem dL_law_981 : decode cL_law 981 = .ok (.iconst 1, 1) := by decide +kernel
theorem dL_law_982 : decode cL_law 982 = .ok (.iadd, 1) := by decide +kernel
theorem dL_law_983 : decode cL_law 983 = .ok (.iaload, 1) := by decide +kernel
theorem dL_law_984 : decode cL_law 984 = .ok (.aload_n 0, 1) := by decide +kernel
theorem dL_law_985 : decode cL_law 985 = .ok (.iload_n 3, 1) := by decide +kernel
theorem dL_law_986 : decode cL_law 986 = .ok (.iconst 2, 1) := by decide +kernel
theorem dL_law_987 : decode cL_law 987 = .ok (.iadd, 1) := by decide +kernel
theorem dL_law_988 : decode cL_law 988 = .ok (.iaload, 1) := by decide +kernel
theorem dL_law_989 : decode cL_law 989 = .ok (.aload_n 0, 1) := by decide +kernel
theorem dL_law_990 : decode cL_law 990 = .ok (.iload_n 3, 1) := by decide +kernel
theorem dL_law_991 : decode cL_law 991 = .ok (.iconst 3, 1) := by decide +kernel
theorem dL_law_992 : decode cL_law 992 = .ok (.iadd, 1) := by decide +kernel
theorem dL_law_993 : decode cL_law 993 = .ok (.iaload, 1) := by decide +kernel
theorem dL_law_994 : decode cL_law 994 = .ok (.invokevirtual 131, 3) := by decide +kernel
theorem dL_law_997 : decode cL_law 997 = .ok (.aload_n 2, 1) := by decide +kernel
theorem dL_law_998 : decode cL_law 998 = .ok (.aload_n 0, 1) := by decide +kernel
theorem dL_law_999 : decode cL_law 999 = .ok (.iload_n 3, 1) := by decide +kernel
theorem dL_law_1000 : decode cL_law 1000 = .ok (.iconst 1, 1) := by decide +kernel
theorem dL_law_1001 : decode cL_law 1001 = .ok (.iadd, 1) := by decide +kernel
theorem dL_law_1002 : decode cL_law 1002 = .ok (.iaload, 1) := by decide +kernel
theorem dL_law_1003 : decode cL_law 1003 = .ok (.aload_n 0, 1) := by decide +kernel
theorem dL_law_1004 : decode cL_law 1004 = .ok (.iload_n 3, 1) := by decide +kernel
theorem dL_law_1005 : decode cL_law 1005 = .ok (.iconst 2, 1) := by decide +kernel
theorem dL_law_1006 : decode cL_law 1006 = .ok (.iadd, 1) := by decide +kernel
theorem dL_law_1007 : decode cL_law 1007 = .ok (.iaload, 1) := by decide +kernel
theorem dL_law_1008 : decode cL_law 1008 = .ok (.aload_n 0, 1) := by decide +kernel
theorem dL_law_1009 : decode cL_law 1009 = .ok (.iload_n 3, 1) := by decide +kernel
theorem dL_law_1010 : decode cL_law 1010 = .ok (.iconst 3, 1) := by decide +kernel
theorem dL_law_1011 : decode cL_law 1011 = .ok (.iadd, 1) := by decide +kernel
theorem dL_law_1012 : decode cL_law 1012 = .ok (.iaload, 1) := by decide +kernel
theorem dL_law_1013 : decode cL_law 1013 = .ok (.invokevirtual 135, 3) := by decide +kernel
theorem dL_law_1016 : decode cL_law 1016 = .ok (.if_icmp .eq 257, 3) := by decide +kernel
theorem dL_law_1019 : decode cL_law 1019 = .ok (.iconst 0, 1) := by decide +kernel
theorem dL_law_1020 : decode cL_law 1020 = .ok (.ireturn, 1) := by decide +kernel
theorem dL_law_1021 : decode cL_law 1021 = .ok (.aload_n 1, 1) := by decide +kernel
theorem dL_law_1022 : decode cL_law 1022 = .ok (.aload_n 0, 1) := by decide +kernel
theorem dL_law_1023 : decode cL_law 1023 = .ok (.iload_n 3, 1) := by decide +kernel
theorem dL_law_1024 : decode cL_law 1024 = .ok (.iconst 1, 1) := by decide +kernel
theorem dL_law_1025 : decode cL_law 1025 = .ok (.iadd, 1) := by decide +kernel
theorem dL_law_1026 : decode cL_law 1026 = .ok (.iaload, 1) := by decide +kernel
theorem dL_law_1027 : decode cL_law 1027 = .ok (.invokevirtual 136, 3) := by decide +kernel
theorem dL_law_1030 : decode cL_law 1030 = .ok (.aload_n 2, 1) := by decide +kernel
theorem dL_law_1031 : decode cL_law 1031 = .ok (.aload_n 0, 1) := by decide +kernel
theorem dL_law_1032 : decode cL_law 1032 = .ok (.iload_n 3, 1) := by decide +kernel
theorem dL_law_1033 : decode cL_law 1033 = .ok (.iconst 1, 1) := by decide +kernel
theorem dL_law_1034 : decode cL_law 1034 = .ok (.iadd, 1) := by decide +kernel
theorem dL_law_1035 : decode cL_law 1035 = .ok (.iaload, 1) := by decide +kernel
theorem dL_law_1036 : decode cL_law 1036 = .ok (.invokevirtual 139, 3) := by decide +kernel
theorem dL_law_1039 : decode cL_law 1039 = .ok (.if_icmp .eq 234, 3) := by decide +kernel
theorem dL_law_1042 : decode cL_law 1042 = .ok (.iconst 0, 1) := by decide +kernel
theorem dL_law_1043 : decode cL_law 1043 = .ok (.ireturn, 1) := by decide +kernel
theorem dL_law_1044 : decode cL_law 1044 = .ok (.aload_n 1, 1) := by decide +kernel
theorem dL_law_1045 : decode cL_law 1045 = .ok (.aload_n 0, 1) := by decide +kernel
theorem dL_law_1046 : decode cL_law 1046 = .ok (.iload_n 3, 1) := by decide +kernel
theorem dL_law_1047 : decode cL_law 1047 = .ok (.iconst 1, 1) := by decide +kernel
theorem dL_law_1048 : decode cL_law 1048 = .ok (.iadd, 1) := by decide +kernel
theorem dL_law_1049 : decode cL_law 1049 = .ok (.iaload, 1) := by decide +kernel
theorem dL_law_1050 : decode cL_law 1050 = .ok (.aload_n 0, 1) := by decide +kernel
theorem dL_law_1051 : decode cL_law 1051 = .ok (.iload_n 3, 1) := by decide +kernel
theorem dL_law_1052 : decode cL_law 1052 = .ok (.iconst 2, 1) := by decide +kernel
theorem dL_law_1053 : decode cL_law 1053 = .ok (.iadd, 1) := by decide +kernel
theorem dL_law_1054 : decode cL_law 1054 = .ok (.iaload, 1) := by decide +kernel
theorem dL_law_1055 : decode cL_law 1055 = .ok (.aload_n 0, 1) := by decide +kernel
theorem dL_law_1056 : decode cL_law 1056 = .ok (.iload_n 3, 1) := by decide +kernel
theorem dL_law_1057 : decode cL_law 1057 = .ok (.iconst 3, 1) := by decide +kernel
theorem dL_law_1058 : decode cL_law 1058 = .ok (.iadd, 1) := by decide +kernel
theorem dL_law_1059 : decode cL_law 1059 = .ok (.iaload, 1) := by decide +kernel
theorem dL_law_1060 : decode cL_law 1060 = .ok (.aload_n 0, 1) := by decide +kernel
theorem dL_law_1061 : decode cL_law 1061 = .ok (.iload_n 3, 1) := by decide +kernel
theorem dL_law_1062 : decode cL_law 1062 = .ok (.iconst 4, 1) := by decide +kernel
theorem dL_law_1063 : decode cL_law 1063 = .ok (.iadd, 1) := by decide +kernel
theorem dL_law_1064 : decode cL_law 1064 = .ok (.iaload, 1) := by decide +kernel
theorem dL_law_1065 : decode cL_law 1065 = .ok (.invokevirtual 140, 3) := by decide +kernel
theorem dL_law_1068 : decode cL_law 1068 = .ok (.aload_n 2, 1) := by decide +kernel
theorem dL_law_1069 : decode cL_law 1069 = .ok (.aload_n 0, 1) := by decide +kernel
theorem dL_law_1070 : decode cL_law 1070 = .ok (.iload_n 3, 1) := by decide +kernel
theorem dL_law_1071 : decode cL_law 1071 = .ok (.iconst 1, 1) := by decide +kernel
theorem dL_law_1072 : decode cL_law 1072 = .ok (.iadd, 1) := by decide +kernel
theorem dL_law_1073 : decode cL_law 1073 = .ok (.iaload, 1) := by decide +kernel
theorem dL_law_1074 : decode cL_law 1074 = .ok (.aload_n 0, 1) := by decide +kernel
theorem dL_law_1075 : decode cL_law 1075 = .ok (.iload_n 3, 1) := by decide +kernel
theorem dL_law_1076 : decode cL_law 1076 = .ok (.iconst 2, 1) := by decide +kernel
theorem dL_law_1077 : decode cL_law 1077 = .ok (.iadd, 1) := by decide +kernel
theorem dL_law_1078 : decode cL_law 1078 = .ok (.iaload, 1) := by decide +kernel
theorem dL_law_1079 : decode cL_law 1079 = .ok (.aload_n 0, 1) := by decide +kernel
theorem dL_law_1080 : decode cL_law 1080 = .ok (.iload_n 3, 1) := by decide +kernel
theorem dL_law_1081 : decode cL_law 1081 = .ok (.iconst 3, 1) := by decide +kernel
theorem dL_law_1082 : decode cL_law 1082 = .ok (.iadd, 1) := by decide +kernel
theorem dL_law_1083 : decode cL_law 1083 = .ok (.iaload, 1) := by decide +kernel
theorem dL_law_1084 : decode cL_law 1084 = .ok (.aload_n 0, 1) := by decide +kernel
theorem dL_law_1085 : decode cL_law 1085 = .ok (.iload_n 3, 1) := by decide +kernel
theorem dL_law_1086 : decode cL_law 1086 = .ok (.iconst 4, 1) := by decide +kernel
theorem dL_law_1087 : decode cL_law 1087 = .ok (.iadd, 1) := by decide +kernel
theorem dL_law_1088 : decode cL_law 1088 = .ok (.iaload, 1) := by decide +kernel
theorem dL_law_1089 : decode cL_law 1089 = .ok (.invokevirtual 143, 3) := by decide +kernel
theorem dL_law_1092 : decode cL_law 1092 = .ok (.if_icmp .eq 181, 3) := by decide +kernel
theorem dL_law_1095 : decode cL_law 1095 = .ok (.iconst 0, 1) := by decide +kernel
theorem dL_law_1096 : decode cL_law 1096 = .ok (.ireturn, 1) := by decide +kernel
theorem dL_law_1097 : decode cL_law 1097 = .ok (.aload_n 1, 1) := by decide +kernel
theorem dL_law_1098 : decode cL_law 1098 = .ok (.aload_n 0, 1) := by decide +kernel
theorem dL_law_1099 : decode cL_law 1099 = .ok (.iload_n 3, 1) := by decide +kernel
theorem dL_law_1100 : decode cL_law 1100 = .ok (.iconst 1, 1) := by decide +kernel
theorem dL_law_1101 : decode cL_law 1101 = .ok (.iadd, 1) := by decide +kernel
theorem dL_law_1102 : decode cL_law 1102 = .ok (.iaload, 1) := by decide +kernel
theorem dL_law_1103 : decode cL_law 1103 = .ok (.aload_n 0, 1) := by decide +kernel
theorem dL_law_1104 : decode cL_law 1104 = .ok (.iload_n 3, 1) := by decide +kernel
theorem dL_law_1105 : decode cL_law 1105 = .ok (.iconst 2, 1) := by decide +kernel
theorem dL_law_1106 : decode cL_law 1106 = .ok (.iadd, 1) := by decide +kernel
theorem dL_law_1107 : decode cL_law 1107 = .ok (.iaload, 1) := by decide +kernel
theorem dL_law_1108 : decode cL_law 1108 = .ok (.aload_n 0, 1) := by decide +kernel
theorem dL_law_1109 : decode cL_law 1109 = .ok (.iload_n 3, 1) := by decide +kernel
theorem dL_law_1110 : decode cL_law 1110 = .ok (.iconst 3, 1) := by decide +kernel
theorem dL_law_1111 : decode cL_law 1111 = .ok (.iadd, 1) := by decide +kernel
theorem dL_law_1112 : decode cL_law 1112 = .ok (.iaload, 1) := by decide +kernel
theorem dL_law_1113 : decode cL_law 1113 = .ok (.invokevirtual 144, 3) := by decide +kernel
theorem dL_law_1116 : decode cL_law 1116 = .ok (.aload_n 2, 1) := by decide +kernel
theorem dL_law_1117 : decode cL_law 1117 = .ok (.aload_n 0, 1) := by decide +kernel
theorem dL_law_1118 : decode cL_law 1118 = .ok (.iload_n 3, 1) := by decide +kernel
theorem dL_law_1119 : decode cL_law 1119 = .ok (.iconst 1, 1) := by decide +kernel
theorem dL_law_1120 : decode cL_law 1120 = .ok (.iadd, 1) := by decide +kernel
theorem dL_law_1121 : decode cL_law 1121 = .ok (.iaload, 1) := by decide +kernel
theorem dL_law_1122 : decode cL_law 1122 = .ok (.aload_n 0, 1) := by decide +kernel
theorem dL_law_1123 : decode cL_law 1123 = .ok (.iload_n 3, 1) := by decide +kernel
theorem dL_law_1124 : decode cL_law 1124 = .ok (.iconst 2, 1) := by decide +kernel
theorem dL_law_1125 : decode cL_law 1125 = .ok (.iadd, 1) := by decide +kernel
theorem dL_law_1126 : decode cL_law 1126 = .ok (.iaload, 1) := by decide +kernel
theorem dL_law_1127 : decode cL_law 1127 = .ok (.aload_n 0, 1) := by decide +kernel
theorem dL_law_1128 : decode cL_law 1128 = .ok (.iload_n 3, 1) := by decide +kernel
theorem dL_law_1129 : decode cL_law 1129 = .ok (.iconst 3, 1) := by decide +kernel
theorem dL_law_1130 : decode cL_law 1130 = .ok (.iadd, 1) := by decide +kernel
theorem dL_law_1131 : decode cL_law 1131 = .ok (.iaload, 1) := by decide +kernel
theorem dL_law_1132 : decode cL_law 1132 = .ok (.invokevirtual 147, 3) := by decide +kernel
theorem dL_law_1135 : decode cL_law 1135 = .ok (.if_icmp .eq 138, 3) := by decide +kernel
theorem dL_law_1138 : decode cL_law 1138 = .ok (.iconst 0, 1) := by decide +kernel
theorem dL_law_1139 : decode cL_law 1139 = .ok (.ireturn, 1) := by decide +kernel
theorem dL_law_1140 : decode cL_law 1140 = .ok (.aload_n 1, 1) := by decide +kernel
theorem dL_law_1141 : decode cL_law 1141 = .ok (.aload_n 0, 1) := by decide +kernel
theorem dL_law_1142 : decode cL_law 1142 = .ok (.iload_n 3, 1) := by decide +kernel
theorem dL_law_1143 : decode cL_law 1143 = .ok (.iconst 1, 1) := by decide +kernel
theorem dL_law_1144 : decode cL_law 1144 = .ok (.iadd, 1) := by decide +kernel
theorem dL_law_1145 : decode cL_law 1145 = .ok (.iaload, 1) := by decide +kernel
theorem dL_law_1146 : decode cL_law 1146 = .ok (.aload_n 0, 1) := by decide +kernel
theorem dL_law_1147 : decode cL_law 1147 = .ok (.iload_n 3, 1) := by decide +kernel
theorem dL_law_1148 : decode cL_law 1148 = .ok (.iconst 2, 1) := by decide +kernel
theorem dL_law_1149 : decode cL_law 1149 = .ok (.iadd, 1) := by decide +kernel
theorem dL_law_1150 : decode cL_law 1150 = .ok (.iaload, 1) := by decide +kernel
theorem dL_law_1151 : decode cL_law 1151 = .ok (.aload_n 0, 1) := by decide +kernel
theorem dL_law_1152 : decode cL_law 1152 = .ok (.iload_n 3, 1) := by decide +kernel
theorem dL_law_1153 : decode cL_law 1153 = .ok (.iconst 3, 1) := by decide +kernel
theorem dL_law_1154 : decode cL_law 1154 = .ok (.iadd, 1) := by decide +kernel
theorem dL_law_1155 : decode cL_law 1155 = .ok (.iaload, 1) := by decide +kernel
theorem dL_law_1156 : decode cL_law 1156 = .ok (.aload_n 0, 1) := by decide +kernel
theorem dL_law_1157 : decode cL_law 1157 = .ok (.iload_n 3, 1) := by decide +kernel
theorem dL_law_1158 : decode cL_law 1158 = .ok (.iconst 4, 1) := by decide +kernel
theorem dL_law_1159 : decode cL_law 1159 = .ok (.iadd, 1) := by decide +kernel
theorem dL_law_1160 : decode cL_law 1160 = .ok (.iaload, 1) := by decide +kernel
theorem dL_law_1161 : decode cL_law 1161 = .ok (.aload_n 0, 1) := by decide +kernel
theorem dL_law_1162 : decode cL_law 1162 = .ok (.iload_n 3, 1) := by decide +kernel
theorem dL_law_1163 : decode cL_law 1163 = .ok (.iconst 5, 1) := by decide +kernel
theorem dL_law_1164 : decode cL_law 1164 = .ok (.iadd, 1) := by decide +kernel
theorem dL_law_1165 : decode cL_law 1165 = .ok (.iaload, 1) := by decide +kernel
theorem dL_law_1166 : decode cL_law 1166 = .ok (.invokevirtual 148, 3) := by decide +kernel
theorem dL_law_1169 : decode cL_law 1169 = .ok (.aload_n 2, 1) := by decide +kernel
theorem dL_law_1170 : decode cL_law 1170 = .ok (.aload_n 0, 1) := by decide +kernel
theorem dL_law_1171 : decode cL_law 1171 = .ok (.iload_n 3, 1) := by decide +kernel
theorem dL_law_1172 : decode cL_law 1172 = .ok (.iconst 1, 1) := by decide +kernel
theorem dL_law_1173 : decode cL_law 1173 = .ok (.iadd, 1) := by decide +kernel
theorem dL_law_1174 : decode cL_law 1174 = .ok (.iaload, 1) := by decide +kernel
theorem dL_law_1175 : decode cL_law 1175 = .ok (.aload_n 0, 1) := by decide +kernel
theorem dL_law_1176 : decode cL_law 1176 = .ok (.iload_n 3, 1) := by decide +kernel
theorem dL_law_1177 : decode cL_law 1177 = .ok (.iconst 2, 1) := by decide +kernel
theorem dL_law_1178 : decode cL_law 1178 = .ok (.iadd, 1) := by decide +kernel
theorem dL_law_1179 : decode cL_law 1179 = .ok (.iaload, 1) := by decide +kernel
theorem dL_law_1180 : decode cL_law 1180 = .ok (.aload_n 0, 1) := by decide +kernel
theorem dL_law_1181 : decode cL_law 1181 = .ok (.iload_n 3, 1) := by decide +kernel
theorem dL_law_1182 : decode cL_law 1182 = .ok (.iconst 3, 1) := by decide +kernel
theorem dL_law_1183 : decode cL_law 1183 = .ok (.iadd, 1) := by decide +kernel
theorem dL_law_1184 : decode cL_law 1184 = .ok (.iaload, 1) := by decide +kernel
theorem dL_law_1185 : decode cL_law 1185 = .ok (.aload_n 0, 1) := by decide +kernel
theorem dL_law_1186 : decode cL_law 1186 = .ok (.iload_n 3, 1) := by decide +kernel
theorem dL_law_1187 : decode cL_law 1187 = .ok (.iconst 4, 1) := by decide +kernel
theorem dL_law_1188 : decode cL_law 1188 = .ok (.iadd, 1) := by decide +kernel
theorem dL_law_1189 : decode cL_law 1189 = .ok (.iaload, 1) := by decide +kernel
theorem dL_law_1190 : decode cL_law 1190 = .ok (.aload_n 0, 1) := by decide +kernel
theorem dL_law_1191 : decode cL_law 1191 = .ok (.iload_n 3, 1) := by decide +kernel
theorem dL_law_1192 : decode cL_law 1192 = .ok (.iconst 5, 1) := by decide +kernel
theorem dL_law_1193 : decode cL_law 1193 = .ok (.iadd, 1) := by decide +kernel
theorem dL_law_1194 : decode cL_law 1194 = .ok (.iaload, 1) := by decide +kernel
theorem dL_law_1195 : decode cL_law 1195 = .ok (.invokevirtual 152, 3) := by decide +kernel
theorem dL_law_1198 : decode cL_law 1198 = .ok (.if_icmp .eq 75, 3) := by decide +kernel
theorem dL_law_1201 : decode cL_law 1201 = .ok (.iconst 0, 1) := by decide +kernel
theorem dL_law_1202 : decode cL_law 1202 = .ok (.ireturn, 1) := by decide +kernel
theorem dL_law_1203 : decode cL_law 1203 = .ok (.aload_n 1, 1) := by decide +kernel
theorem dL_law_1204 : decode cL_law 1204 = .ok (.aload_n 0, 1) := by decide +kernel
theorem dL_law_1205 : decode cL_law 1205 = .ok (.iload_n 3, 1) := by decide +kernel
theorem dL_law_1206 : decode cL_law 1206 = .ok (.iconst 1, 1) := by decide +kernel
theorem dL_law_1207 : decode cL_law 1207 = .ok (.iadd, 1) := by decide +kernel
theorem dL_law_1208 : decode cL_law 1208 = .ok (.iaload, 1) := by decide +kernel
theorem dL_law_1209 : decode cL_law 1209 = .ok (.aload_n 0, 1) := by decide +kernel
theorem dL_law_1210 : decode cL_law 1210 = .ok (.iload_n 3, 1) := by decide +kernel
theorem dL_law_1211 : decode cL_law 1211 = .ok (.iconst 2, 1) := by decide +kernel
theorem dL_law_1212 : decode cL_law 1212 = .ok (.iadd, 1) := by decide +kernel
theorem dL_law_1213 : decode cL_law 1213 = .ok (.iaload, 1) := by decide +kernel
theorem dL_law_1214 : decode cL_law 1214 = .ok (.invokevirtual 153, 3) := by decide +kernel
theorem dL_law_1217 : decode cL_law 1217 = .ok (.aload_n 2, 1) := by decide +kernel
theorem dL_law_1218 : decode cL_law 1218 = .ok (.aload_n 0, 1) := by decide +kernel
theorem dL_law_1219 : decode cL_law 1219 = .ok (.iload_n 3, 1) := by decide +kernel
theorem dL_law_1220 : decode cL_law 1220 = .ok (.iconst 1, 1) := by decide +kernel
theorem dL_law_1221 : decode cL_law 1221 = .ok (.iadd, 1) := by decide +kernel
theorem dL_law_1222 : decode cL_law 1222 = .ok (.iaload, 1) := by decide +kernel
theorem dL_law_1223 : decode cL_law 1223 = .ok (.aload_n 0, 1) := by decide +kernel
end
section
theorem dL_law_1224 : decode cL_law 1224 = .ok (.iload_n 3, 1) := by decide +kernel
theorem dL_law_1225 : decode cL_law 1225 = .ok (.iconst 2, 1) := by decide +kernel
theorem dL_law_1226 : decode cL_law 1226 = .ok (.iadd, 1) := by decide +kernel
theorem dL_law_1227 : decode cL_law 1227 = .ok (.iaload, 1) := by decide +kernel
theorem dL_law_1228 : decode cL_law 1228 = .ok (.invokevirtual 156, 3) := by decide +kernel
theorem dL_law_1231 : decode cL_law 1231 = .ok (.if_icmp .eq 42, 3) := by decide +kernel
theorem dL_law_1234 : decode cL_law 1234 = .ok (.iconst 0, 1) := by decide +kernel
theorem dL_law_1235 : decode cL_law 1235 = .ok (.ireturn, 1) := by decide +kernel
theorem dL_law_1236 : decode cL_law 1236 = .ok (.aload_n 1, 1) := by decide +kernel
theorem dL_law_1237 : decode cL_law 1237 = .ok (.aload_n 0, 1) := by decide +kernel
theorem dL_law_1238 : decode cL_law 1238 = .ok (.iload_n 3, 1) := by decide +kernel
theorem dL_law_1239 : decode cL_law 1239 = .ok (.iconst 1, 1) := by decide +kernel
theorem dL_law_1240 : decode cL_law 1240 = .ok (.iadd, 1) := by decide +kernel
theorem dL_law_1241 : decode cL_law 1241 = .ok (.iaload, 1) := by decide +kernel
theorem dL_law_1242 : decode cL_law 1242 = .ok (.invokevirtual 157, 3) := by decide +kernel
theorem dL_law_1245 : decode cL_law 1245 = .ok (.aload_n 2, 1) := by decide +kernel
theorem dL_law_1246 : decode cL_law 1246 = .ok (.aload_n 0, 1) := by decide +kernel
theorem dL_law_1247 : decode cL_law 1247 = .ok (.iload_n 3, 1) := by decide +kernel
theorem dL_law_1248 : decode cL_law 1248 = .ok (.iconst 1, 1) := by decide +kernel
theorem dL_law_1249 : decode cL_law 1249 = .ok (.iadd, 1) := by decide +kernel
theorem dL_law_1250 : decode cL_law 1250 = .ok (.iaload, 1) := by decide +kernel
theorem dL_law_1251 : decode cL_law 1251 = .ok (.invokevirtual 160, 3) := by decide +kernel
theorem dL_law_1254 : decode cL_law 1254 = .ok (.if_icmp .eq 19, 3) := by decide +kernel
theorem dL_law_1257 : decode cL_law 1257 = .ok (.iconst 0, 1) := by decide +kernel
theorem dL_law_1258 : decode cL_law 1258 = .ok (.ireturn, 1) := by decide +kernel
theorem dL_law_1259 : decode cL_law 1259 = .ok (.aload_n 1, 1) := by decide +kernel
theorem dL_law_1260 : decode cL_law 1260 = .ok (.invokevirtual 161, 3) := by decide +kernel
theorem dL_law_1263 : decode cL_law 1263 = .ok (.aload_n 2, 1) := by decide +kernel
theorem dL_law_1264 : decode cL_law 1264 = .ok (.invokevirtual 165, 3) := by decide +kernel
theorem dL_law_1267 : decode cL_law 1267 = .ok (.lcmp, 1) := by decide +kernel
theorem dL_law_1268 : decode cL_law 1268 = .ok (.ifCond .eq 5, 3) := by decide +kernel
theorem dL_law_1271 : decode cL_law 1271 = .ok (.iconst 0, 1) := by decide +kernel
theorem dL_law_1272 : decode cL_law 1272 = .ok (.ireturn, 1) := by decide +kernel
theorem dL_law_1273 : decode cL_law 1273 = .ok (.iinc 3 6, 3) := by decide +kernel
theorem dL_law_1276 : decode cL_law 1276 = .ok (.goto (-1258), 3) := by decide +kernel
theorem dL_law_1279 : decode cL_law 1279 = .ok (.iconst 1, 1) := by decide +kernel
theorem dL_law_1280 : decode cL_law 1280 = .ok (.ireturn, 1) := by decide +kernel
end
section
/-! ## Abstract values, memory and world: all objects are fixed after the two constructors; refs are numbers of cells (0 ..) of gG_, or of outer things (100 on). -/
abbrev Av_ : Type := Int ⊕ (Int ⊕ Option Nat)
abbrev vi_ (z : Int) : Av_ := Sum.inl z
abbrev vl_ (z : Int) : Av_ := Sum.inr (Sum.inl z)
abbrev vr_ (k : Nat) : Av_ := Sum.inr (Sum.inr (some k))
abbrev vn_ : Av_ := Sum.inr (Sum.inr none)
def av_ (ad : Nat → Nat) (v : Av_) : Value := match v with
  | .inl z => .int (Int32.ofInt z)
  | .inr (.inl z) => .long (Int64.ofInt z)
  | .inr (.inr (some k)) => .ref (ad k)
  | .inr (.inr none) => .null
abbrev Mm_ : Type := Nat → Nat → Int
def ms_ (σ : Mm_) (k j : Nat) (v : Int) : Mm_ := fun a b => if a = k ∧ b = j then v else σ a b
/-- n items of row k0 from sp on come to row k1 from dp on -/
def mc_ (σ : Mm_) (k0 k1 sp dp n : Nat) : Mm_ := fun a b => if a = k1 ∧ dp ≤ b ∧ b < dp + n then σ k0 (sp + (b - dp)) else σ a b
abbrev Sh_ : Type := (Nat × List (Option Nat)) ⊕ ((Nat × Nat) ⊕ List Nat)
def ob_ (ci : Nat) (fs : List (Option Nat)) : Sh_ := Sum.inl (ci, fs)
def ia_ (n : Nat) : Sh_ := Sum.inr (Sum.inl (0, n))
def za_ (n : Nat) : Sh_ := Sum.inr (Sum.inl (1, n))
def ra_ (ids : List Nat) : Sh_ := Sum.inr (Sum.inr ids)
def gG_ : List Sh_ := [
  ob_ 6 [some 1, some 3, some 5, some 7, some 10, some 19, some 29, some 32, some 35, none, none],
  ob_ 5 [some 100, none, some 2, none], ia_ 23, ob_ 5 [some 101, none, some 4, none], ia_ 39, ob_ 5 [some 102, none, some 6, none], ia_ 59,
  ob_ 2 [some 8, some 9, none], ia_ 12, ia_ 12,
  ra_ [11, 13, 15, 17], ob_ 4 [some 12, none, none, none], ia_ 60, ob_ 4 [some 14, none, none, none], ia_ 60, ob_ 4 [some 16, none, none, none], ia_ 60, ob_ 4 [some 18, none, none, none], ia_ 60,
  ob_ 1 [none, some 20, some 21, none, some 22, some 23, none, none, some 24, some 25, some 26, some 27, some 28], ia_ 6, ia_ 6, ia_ 8, ia_ 8, ia_ 12, ia_ 12, ia_ 12, ia_ 8, ia_ 12,
  ob_ 3 [some 19, some 30, some 31, none, none, none, none], ia_ 8, ia_ 6,
  ob_ 2 [some 33, some 34, none], ia_ 8, ia_ 8,
  ob_ 0 [some 19, some 29, some 32, some 36, some 37, none, none], za_ 256, ia_ 100,
  ob_ 7 [some 39, some 40, some 41, some 42, none, some 43, some 44, none, some 45, some 46, some 47, some 48, none, none, some 49, some 50, none, none, some 51, none, none, none, none, some 52, some 53, none],
  ia_ 4, ia_ 4, ia_ 240, ia_ 60, ia_ 180, ia_ 3, ia_ 3, ia_ 12, ia_ 24, ia_ 36, ia_ 24, ia_ 8, ia_ 6, ia_ 16, ia_ 256]
/-- what is known of one launch: the classes, the classes of the int, boolean and Sheet arrays, where each cell lies -/
abbrev Dt_ : Type := va_G × ((ClassId × ClassId × ClassId) × (Nat → Nat))
def fd_ (D : Dt_) (f : Nat → Int) (j : Nat) (o : Option Nat) : Value := match o with
  | none => Value.int (Int32.ofInt (f j))
  | some k => Value.ref (D.2.2 k)
def cl_ (D : Dt_) (x : Sh_) (f : Nat → Int) : va_E := match x with
  | .inl (ci, fs) => .inr (ci, fs.mapIdx (fd_ D f))
  | .inr (.inl (t, n)) => .inl ((if t = 0 then D.2.1.1 else D.2.1.2.1), n, .inl (fun j => Int32.ofInt (f j)))
  | .inr (.inr ids) => .inl (D.2.1.2.2, ids.length, .inr (.inr (.inr (.inr (fun j => (ids[j]?).map D.2.2)))))
def wd_ (D : Dt_) (σ : Mm_) : va_W := gG_.mapIdx (fun k x => (D.2.2 k, cl_ D x (σ k)))
theorem wd_get {D : Dt_} {σ : Mm_} {k : Nat} {x : Sh_} (h : gG_[k]? = some x) : (wd_ D σ)[k]? = some (D.2.2 k, cl_ D x (σ k)) := by
  simp [wd_, h]
theorem wd_upd {D : Dt_} {σ : Mm_} {k : Nat} {x : Sh_} (h : gG_[k]? = some x) (f : Nat → Int) {e : va_E} (he : e = cl_ D x f) : (wd_ D σ).set k (D.2.2 k, e) = wd_ D (fun a => if a = k then f else σ a) := by
  subst he
  apply List.ext_getElem?
  intro i
  by_cases hi : k = i
  · subst hi
    have hk : k < gG_.length := (List.getElem?_eq_some_iff.mp h).1
    have h1 : k < (wd_ D σ).length := by simp [wd_, hk]
    rw [List.getElem?_set_self h1, wd_get h]
    simp
  · rw [List.getElem?_set_ne hi]
    simp only [wd_, List.getElem?_mapIdx]
    cases gG_[i]? with
    | none => rfl
    | some x => simp [Ne.symm hi]
theorem ms_row (σ : Mm_) (k j : Nat) (v : Int) : ms_ σ k j v = fun a => if a = k then (fun b => if b = j then v else σ k b) else σ a := by
  funext a b
  unfold ms_
  by_cases h1 : a = k
  · subst h1
    by_cases h2 : b = j <;> simp [h2]
  · simp [h1]
theorem mc_row (σ : Mm_) (k0 k1 sp dp n : Nat) : mc_ σ k0 k1 sp dp n = fun a => if a = k1 then (fun b => if dp ≤ b ∧ b < dp + n then σ k0 (sp + (b - dp)) else σ k1 b) else σ a := by
  funext a b
  unfold mc_
  by_cases h1 : a = k1
  · subst h1
    simp
  · simp [h1]
theorem ms_eq {σ : Mm_} {k j : Nat} {v : Int} : ms_ σ k j v k j = v := by simp [ms_]
theorem ms_ne {σ : Mm_} {k j a b : Nat} {v : Int} (h : ¬ (a = k ∧ b = j)) : ms_ σ k j v a b = σ a b := by simp [ms_, h]
theorem ms_nk {σ : Mm_} {k j a b : Nat} {v : Int} (h : a ≠ k) : ms_ σ k j v a b = σ a b := by simp [ms_, h]
abbrev Rg_ (z : Int) : Prop := -2147483648 ≤ z ∧ z ≤ 2147483647
abbrev Rl_ (z : Int) : Prop := -9223372036854775808 ≤ z ∧ z ≤ 9223372036854775807
def RM_ (σ : Mm_) : Prop := ∀ a b, Rg_ (σ a b)
theorem RM_.ms {σ : Mm_} {k j : Nat} {v : Int} (h : RM_ σ) (hv : Rg_ v) : RM_ (ms_ σ k j v) := by
  intro a b
  unfold ms_
  split
  · exact hv
  · exact h a b
theorem RM_.mc {σ : Mm_} {k0 k1 sp dp n : Nat} (h : RM_ σ) : RM_ (mc_ σ k0 k1 sp dp n) := by
  intro a b
  unfold mc_
  split
  · exact h _ _
  · exact h a b
/-! ints of 32 and 64 bits as integers -/
theorem i3_to {z : Int} (h : Rg_ z) : (Int32.ofInt z).toInt = z := Int32.toInt_ofInt_of_le (by have := h.1; simpa using this) (by have := h.2; omega)
theorem i3_of (x : Int32) : Int32.ofInt x.toInt = x := Int32.ofInt_toInt x
theorem i3_rg (x : Int32) : Rg_ x.toInt := ⟨by have := Int32.minValue_le_toInt x; simpa using this, by have := Int32.toInt_lt x; omega⟩
theorem i3_le {a b : Int} (ha : Rg_ a) (hb : Rg_ b) : Int32.ofInt a ≤ Int32.ofInt b ↔ a ≤ b := by rw [Int32.le_iff_toInt_le, i3_to ha, i3_to hb]
theorem i3_lt {a b : Int} (ha : Rg_ a) (hb : Rg_ b) : Int32.ofInt a < Int32.ofInt b ↔ a < b := by rw [Int32.lt_iff_toInt_lt, i3_to ha, i3_to hb]
theorem i3_eq {a b : Int} (ha : Rg_ a) (hb : Rg_ b) : Int32.ofInt a = Int32.ofInt b ↔ a = b := by rw [← Int32.toInt_inj, i3_to ha, i3_to hb]
theorem i3_0 : (0 : Int32) = Int32.ofInt 0 := rfl
theorem i6_to {z : Int} (h : Rl_ z) : (Int64.ofInt z).toInt = z := Int64.toInt_ofInt_of_le (by have := h.1; simpa using this) (by have := h.2; omega)
theorem i6_lt {a b : Int} (ha : Rl_ a) (hb : Rl_ b) : Int64.ofInt a < Int64.ofInt b ↔ a < b := by rw [Int64.lt_iff_toInt_lt, i6_to ha, i6_to hb]
theorem i6_eq {a b : Int} (ha : Rl_ a) (hb : Rl_ b) : Int64.ofInt a = Int64.ofInt b ↔ a = b := by rw [← Int64.toInt_inj, i6_to ha, i6_to hb]
theorem i3_nn {i : Int} (h : 0 ≤ i) (h2 : i < 2147483648) : (Int32.ofInt i).toNatClampNeg = i.toNat := by
  have h1 := i3_to (z := i) ⟨by omega, by omega⟩
  unfold Int32.toNatClampNeg
  rw [h1]
theorem i3_in {i : Int} {n : Nat} (h : 0 ≤ i) (h2 : i < n) (hn : n < 2147483648) : vp_in (Int32.ofInt i) n := by
  have h1 := i3_to (z := i) ⟨by omega, by omega⟩
  rw [vp_in_iff, h1]
  exact ⟨h, h2⟩
/-! the locals -/
def ll_ (ad : Nat → Nat) : Nat → List (Option Av_) → List (Nat × Value)
  | _, [] => []
  | i, none :: t => ll_ ad (i + 1) t
  | i, some v :: t => (i, av_ ad v) :: ll_ ad (i + 1) t
theorem ll_mem {ad : Nat → Nat} {ls : List (Option Av_)} : ∀ {i : Nat} {q : Nat × Value}, q ∈ ll_ ad i ls ↔ ∃ j v, ls[j]? = some (some v) ∧ q = (i + j, av_ ad v) := by
  induction ls with
  | nil => intro i q; simp [ll_]
  | cons a t ih =>
    intro i q
    have hcase : (∃ j v, (a :: t)[j]? = some (some v) ∧ q = (i + j, av_ ad v)) ↔ ((∃ v, a = some v ∧ q = (i, av_ ad v)) ∨ ∃ j v, t[j]? = some (some v) ∧ q = (i + 1 + j, av_ ad v)) := by
      constructor
      · rintro ⟨j, v, h1, h2⟩
        cases j with
        | zero => exact Or.inl ⟨v, by simpa using h1, by simpa using h2⟩
        | succ j => exact Or.inr ⟨j, v, by simpa using h1, by rw [h2]; simp; omega⟩
      · rintro (⟨v, h1, h2⟩ | ⟨j, v, h1, h2⟩)
        · exact ⟨0, v, by simp [h1], by simpa using h2⟩
        · exact ⟨j + 1, v, by simpa using h1, by rw [h2]; simp; omega⟩
    rw [hcase]
    cases a with
    | none => simp [ll_, ih]
    | some w => simp [ll_, ih]
theorem ll_at {ad : Nat → Nat} {ls : List (Option Av_)} {lsA : Array Slot} {n k : Nat} {v : Av_} (hl : lv_has lsA n (ll_ ad 0 ls)) (h : ls[k]? = some (some v)) : lsA[k]? = some (.val (av_ ad v)) :=
  hl.2.2 (k, av_ ad v) (ll_mem.mpr ⟨k, v, h, by simp⟩)
/-- no long begins just ahead of local k -/
def nl_ (ls : List (Option Av_)) (k : Nat) : Bool := match k with
  | 0 => true
  | k + 1 => match ls[k]? with
    | some (some (.inr (.inl _))) => false
    | _ => true
theorem nl_cat {ad : Nat → Nat} {ls : List (Option Av_)} {j : Nat} {v : Av_} (h : nl_ ls (j + 1) = true) (hj : ls[j]? = some (some v)) : (av_ ad v).category ≠ 2 := by
  simp only [nl_, hj] at h
  match v, h with
  | .inl z, _ => simp [av_, Value.category]
  | .inr (.inr (some k)), _ => simp [av_, Value.category]
  | .inr (.inr none), _ => simp [av_, Value.category]
theorem ll_set {ad : Nat → Nat} {ls : List (Option Av_)} {lsA : Array Slot} {n k : Nat} {v : Av_} (hn : nl_ ls k = true) (h : lv_has lsA n ((k, av_ ad v) :: (ll_ ad 0 ls).filter (fun q => !(q.1 == k) && !(q.1 + 1 == k && q.2.category == 2)))) : lv_has lsA n (ll_ ad 0 (ls.set k (some v))) := by
  refine ⟨h.1, h.2.1, fun q hq => h.2.2 q ?_⟩
  obtain ⟨j, w, h1, rfl⟩ := ll_mem.mp hq
  rw [List.getElem?_set] at h1
  by_cases hk : k = j
  · subst hk
    simp only [if_pos] at h1
    split at h1
    · cases h1; simp
    · cases h1
  · rw [if_neg hk] at h1
    refine List.mem_cons_of_mem _ (List.mem_filter.mpr ⟨ll_mem.mpr ⟨j, w, h1, rfl⟩, ?_⟩)
    have h3 : ¬ (0 + j = k) := by omega
    by_cases h4 : j + 1 = k
    · subst h4
      have := nl_cat (ad := ad) hn h1
      simp [this]
    · have h5 : ¬ (0 + j + 1 = k) := by omega
      simp [h3, h5] <;> omega
theorem ll_setL {ad : Nat → Nat} {ls : List (Option Av_)} {lsA : Array Slot} {n k : Nat} {v : Av_} (hn : nl_ ls k = true) (h : lv_has lsA n ((k, av_ ad v) :: (ll_ ad 0 ls).filter (fun q => !(q.1 == k) && (!(q.1 == k + 1) && !(q.1 + 1 == k && q.2.category == 2))))) : lv_has lsA n (ll_ ad 0 ((ls.set k (some v)).set (k + 1) none)) := by
  refine ⟨h.1, h.2.1, fun q hq => h.2.2 q ?_⟩
  obtain ⟨j, w, h1, rfl⟩ := ll_mem.mp hq
  rw [List.getElem?_set] at h1
  by_cases hk1 : k + 1 = j
  · subst hk1
    simp only [if_pos] at h1
    split at h1 <;> cases h1
  rw [if_neg hk1, List.getElem?_set] at h1
  by_cases hk : k = j
  · subst hk
    simp only [if_pos] at h1
    split at h1
    · cases h1; simp
    · cases h1
  · rw [if_neg hk] at h1
    refine List.mem_cons_of_mem _ (List.mem_filter.mpr ⟨ll_mem.mpr ⟨j, w, h1, rfl⟩, ?_⟩)
    have h3 : ¬ (0 + j = k) := by omega
    have h6 : ¬ (0 + j = k + 1) := by omega
    by_cases h4 : j + 1 = k
    · subst h4
      have := nl_cat (ad := ad) hn h1
      simp [this]
      omega
    · have h5 : ¬ (0 + j + 1 = k) := by omega
      simp [h3, h5, h6] <;> omega
end
section
/-! ## The judgement V_ and its rows -/
abbrev Mt_ : Type := MethodName × (ByteArray × (Nat × (Option FieldType × (Nat × Nat))))
abbrev rm_ (y : Mt_) : Room := { frames := y.2.2.2.2.1, cells := 0, slots := 0, locals := y.2.2.2.2.2 }
/-- the tables' words that hold in every state that a run comes to -/
def gw_ : List Cond := lw_tbl.filter goodWord
theorem gw_in {w : Cond} (i : Nat) (h : lw_tbl[i]? = some w) (hg : goodWord w = true) : w ∈ gw_ := List.mem_filter.mpr ⟨List.mem_of_getElem? h, hg⟩
theorem gw_all {ws : List Cond} (h : ∀ w ∈ ws, w ∈ lw_tbl) (hg : ws.all goodWord = true) : ∀ w ∈ ws, w ∈ gw_ := fun w hw => List.mem_filter.mpr ⟨h w hw, List.all_eq_true.mp hg w hw⟩
def ws_ (y : Mt_) : List Cond := Cond.code y.1 y.2.1 y.2.2.1 y.2.2.2.1 :: gw_
def ty_ (D : Dt_) : List (ClassId × FieldType) := [(D.2.1.1, .int), (D.2.1.2.1, .boolean), (D.2.1.2.2, .object "DrownedNames$Sheet")]
def As_ (D : Dt_) : Nat → Prop := fun q => ∃ k, k < gG_.length ∧ q = D.2.2 k
def Ap_ (D : Dt_) : Prop := ∀ i j, i < gG_.length → j < gG_.length → D.2.2 i = D.2.2 j → i = j
def Ex_ (D : Dt_) (U : State) (H : Heap) : Prop :=
  vk_S 3 [3, 4, 4] [[57, 49, 57], [57, 57, 108, 46], [53, 97, 57, 49]] (fun i => D.2.2 (100 + i)) (fun i => D.2.2 (110 + i)) (As_ D) U H ∧
  va_Z "java/lang/String" "COMPACT_STRINGS" "Z" (.int 1) (As_ D) U H ∧ (va_Z "jdk/internal/util/Preconditions" "SIOOBE_FORMATTER" "Ljava/util/function/BiFunction;" .null (As_ D) U H ∨ va_Z "jdk/internal/util/Preconditions" "SIOOBE_FORMATTER" "Ljava/util/function/BiFunction;" (.ref (D.2.2 120)) (As_ D) U H)
theorem Ex_.moved {D : Dt_} {u U : State} {H : Heap} (hvm : u.vm.Alike U.vm) (h : Ex_ D u H) : Ex_ D U H := ⟨vk_S.moved hvm h.1, va_Z.moved hvm h.2.1, h.2.2.imp (va_Z.moved hvm) (va_Z.moved hvm)⟩
theorem Ex_.kept {D : Dt_} {U : State} {H H1 : Heap} (h : Ex_ D U H) (hq : ∀ a : Nat, a < H.size → ¬ As_ D a → H1[a]? = H[a]?) : Ex_ D U H1 := ⟨h.1.kept hq, h.2.1.kept hq, h.2.2.imp (fun z => z.kept hq) (fun z => z.kept hq)⟩
theorem D_wd {D : Dt_} {σ : Mm_} (h : Ap_ D) : va_D (As_ D) (wd_ D σ) := by
  have key : ∀ (i : Nat) (p : Nat × va_E), (wd_ D σ)[i]? = some p → i < gG_.length ∧ p.1 = D.2.2 i := by
    intro i p hp
    simp only [wd_, List.getElem?_mapIdx] at hp
    cases hg : gG_[i]? with
    | none => rw [hg] at hp; cases hp
    | some x =>
      rw [hg] at hp
      simp at hp
      exact ⟨(List.getElem?_eq_some_iff.mp hg).1, by rw [← hp]⟩
  refine ⟨fun i j p q hp hq hpq => ?_, fun k q hq => ?_⟩
  · obtain ⟨h1, h2⟩ := key i p hp
    obtain ⟨h3, h4⟩ := key j q hq
    exact h i j h1 h3 (by rw [← h2, ← h4, hpq])
  · obtain ⟨h1, h2⟩ := key k q hq
    exact ⟨k, h1, h2⟩
/-- what holds all along a method's run -/
def Bf_ (D : Dt_) (y : Mt_) (p : Program) (R : Room) (s : State) (m : MethodId) (args : Array Value) (meth : Method) (c : Code) (cells slots : Nat) : Prop :=
  p.tables.exec = Jvm.exec ∧ c.code = y.2.1 ∧ meth.sig.returnType = y.2.2.2.1 ∧ c.maxLocals = y.2.2.1 ∧ s.vm.findClass y.1.cls = some m.cls ∧ (∀ w ∈ gw_, w.before args s = true) ∧ va_K D.1 vwCl (ty_ D) s ∧ meth.locks = false ∧ (y.2.2.2.2.1 ≤ R.frames ∧ y.2.2.2.2.2 ≤ R.locals ∧ cells ≤ R.cells ∧ slots ≤ R.slots) ∧ Ap_ D ∧ Ex_ D s s.heap
abbrev Cp_ : Type := Room → State → Array Value → List Frame → Nat → Nat → (State → Prop) → Prop
/-- the machine, in method y at pc with these locals, this stack and this memory, goes to where C wants it -/
def V_ (l : Launch) (D : Dt_) (y : Mt_) (C : Cp_) (pc : Nat) (ls : List (Option Av_)) (st : List Av_) (σ : Mm_) : Prop :=
  RM_ σ → ∀ (p : Program) (e : Env) (R : Room) (s : State) (m : MethodId) (args : Array Value) (below : List Frame) (meth : Method) (c : Code) (cells slots : Nat) (Q : State → Prop), C R s args below cells slots Q → Bf_ D y p R s m args meth c cells slots →
    ∀ (H : Heap) (locs : List Loc) (lsA : Array Slot), va_P D.1 vwCl (wd_ D σ) H → va_S (As_ D) s.heap H locs → lv_has lsA y.2.2.1 (ll_ D.2.2 0 ls) →
      W p l e R s m args below meth c H locs cells slots Q (F0 m pc lsA (st.map (av_ D.2.2)))
/-- a method's end: its answer and memory -/
def Qc_ (D : Dt_) (post : Option Av_ → Mm_ → Prop) : Array Value → State → Outcome → State → Prop := fun _ st o t =>
  (∃ (r : Option Av_) (σ : Mm_), o = .returned (r.map (av_ D.2.2)) ∧ post r σ ∧ RM_ σ ∧ va_P D.1 vwCl (wd_ D σ) t.heap) ∧ va_F (As_ D) st t
def CM_ (D : Dt_) (y : Mt_) (post : Option Av_ → Mm_ → Prop) : Cp_ := fun R s args below cells slots Q =>
  R = rm_ y ∧ cells = 0 ∧ slots = 0 ∧ Q = MQ below (Qc_ D post) args s 0 0 (As_ D)
section VROWS
variable {l : Launch} {D : Dt_} {y : Mt_} {C : Cp_} {pc : Nat} {ls : List (Option Av_)} {st : List Av_} {σ : Mm_}
theorem V_rg (h : RM_ σ → V_ l D y C pc ls st σ) : V_ l D y C pc ls st σ := fun hR => h hR hR
theorem V_iconst {n : Int} (hd : decode y.2.1 pc = .ok (.iconst n, 1)) (h : V_ l D y C (pc + 1) ls (vi_ n :: st) σ) : V_ l D y C pc ls st σ := by
  intro hR p e R s m args below meth c cells slots Q hC B H locs lsA hP hS hl
  exact lv_iconst B.1 B.2.1 hd rfl (h hR p e R s m args below meth c cells slots Q hC B H locs lsA hP hS hl)
theorem V_bipush {n : Int} (hd : decode y.2.1 pc = .ok (.bipush n, 2)) (hv : (Int8.ofInt n).toInt32 = Int32.ofInt n) (h : V_ l D y C (pc + 2) ls (vi_ n :: st) σ) : V_ l D y C pc ls st σ := by
  intro hR p e R s m args below meth c cells slots Q hC B H locs lsA hP hS hl
  exact lv_bipush B.1 B.2.1 hd hv (h hR p e R s m args below meth c cells slots Q hC B H locs lsA hP hS hl)
theorem V_sipush {n : Int} (hd : decode y.2.1 pc = .ok (.sipush n, 3)) (hv : (Int16.ofInt n).toInt32 = Int32.ofInt n) (h : V_ l D y C (pc + 3) ls (vi_ n :: st) σ) : V_ l D y C pc ls st σ := by
  intro hR p e R s m args below meth c cells slots Q hC B H locs lsA hP hS hl
  exact lv_sipush B.1 B.2.1 hd hv (h hR p e R s m args below meth c cells slots Q hC B H locs lsA hP hS hl)
theorem V_lconst {n : Fin 2} {z : Int} (hd : decode y.2.1 pc = .ok (.lconst n, 1)) (hv : Int64.ofNat (n : Nat) = Int64.ofInt z) (h : V_ l D y C (pc + 1) ls (vl_ z :: st) σ) : V_ l D y C pc ls st σ := by
  intro hR p e R s m args below meth c cells slots Q hC B H locs lsA hP hS hl
  exact lv_lconst B.1 B.2.1 hd hv (h hR p e R s m args below meth c cells slots Q hC B H locs lsA hP hS hl)
theorem V_ldc {i : Nat} {v : Int32} {z : Int} (hd : decode y.2.1 pc = .ok (.ldc i, 2)) (hk : Cond.constant y.1.cls i v ∈ gw_) (hv : v = Int32.ofInt z) (h : V_ l D y C (pc + 2) ls (vi_ z :: st) σ) : V_ l D y C pc ls st σ := by
  intro hR p e R s m args below meth c cells slots Q hC B H locs lsA hP hS hl
  subst hv
  exact lv_ldc B.1 B.2.1 B.2.2.2.2.1 (B.2.2.2.2.2.1 _ hk) hd (h hR p e R s m args below meth c cells slots Q hC B H locs lsA hP hS hl)
theorem V_ldcw {i : Nat} {v : Int32} {z : Int} (hd : decode y.2.1 pc = .ok (.ldc_w i, 3)) (hk : Cond.constant y.1.cls i v ∈ gw_) (hv : v = Int32.ofInt z) (h : V_ l D y C (pc + 3) ls (vi_ z :: st) σ) : V_ l D y C pc ls st σ := by
  intro hR p e R s m args below meth c cells slots Q hC B H locs lsA hP hS hl
  subst hv
  exact lv_ldcw B.1 B.2.1 B.2.2.2.2.1 (B.2.2.2.2.2.1 _ hk) hd (h hR p e R s m args below meth c cells slots Q hC B H locs lsA hP hS hl)
theorem V_ldc2 {i : Nat} {v : Int64} {z : Int} (hd : decode y.2.1 pc = .ok (.ldc2_w i, 3)) (hk : Cond.constantLong y.1.cls i v ∈ gw_) (hv : v = Int64.ofInt z) (h : V_ l D y C (pc + 3) ls (vl_ z :: st) σ) : V_ l D y C pc ls st σ := by
  intro hR p e R s m args below meth c cells slots Q hC B H locs lsA hP hS hl
  subst hv
  exact lv_ldc2 B.1 B.2.1 B.2.2.2.2.1 (B.2.2.2.2.2.1 _ hk) hd (h hR p e R s m args below meth c cells slots Q hC B H locs lsA hP hS hl)
theorem V_null (hd : decode y.2.1 pc = .ok (.aconst_null, 1)) (h : V_ l D y C (pc + 1) ls (vn_ :: st) σ) : V_ l D y C pc ls st σ := by
  intro hR p e R s m args below meth c cells slots Q hC B H locs lsA hP hS hl
  exact lv_null B.1 B.2.1 hd (h hR p e R s m args below meth c cells slots Q hC B H locs lsA hP hS hl)
-- loads
theorem V_iload_n {k : Fin 4} {i : Nat} {z : Int} (hd : decode y.2.1 pc = .ok (.iload_n k, 1)) (hi : (k : Nat) = i) (hl0 : ls[i]? = some (some (vi_ z))) (h : V_ l D y C (pc + 1) ls (vi_ z :: st) σ) : V_ l D y C pc ls st σ := by
  intro hR p e R s m args below meth c cells slots Q hC B H locs lsA hP hS hl
  exact lv_iload_n B.1 B.2.1 hd hi (ll_at hl hl0) (h hR p e R s m args below meth c cells slots Q hC B H locs lsA hP hS hl)
theorem V_iload {i : Nat} {z : Int} (hd : decode y.2.1 pc = .ok (.iload i, 2)) (hl0 : ls[i]? = some (some (vi_ z))) (h : V_ l D y C (pc + 2) ls (vi_ z :: st) σ) : V_ l D y C pc ls st σ := by
  intro hR p e R s m args below meth c cells slots Q hC B H locs lsA hP hS hl
  exact lv_iload B.1 B.2.1 hd (ll_at hl hl0) (h hR p e R s m args below meth c cells slots Q hC B H locs lsA hP hS hl)
theorem V_lload_n {k : Fin 4} {i : Nat} {z : Int} (hd : decode y.2.1 pc = .ok (.lload_n k, 1)) (hi : (k : Nat) = i) (hl0 : ls[i]? = some (some (vl_ z))) (h : V_ l D y C (pc + 1) ls (vl_ z :: st) σ) : V_ l D y C pc ls st σ := by
  intro hR p e R s m args below meth c cells slots Q hC B H locs lsA hP hS hl
  exact lv_lload_n B.1 B.2.1 hd hi (ll_at hl hl0) (h hR p e R s m args below meth c cells slots Q hC B H locs lsA hP hS hl)
theorem V_lload {i : Nat} {z : Int} (hd : decode y.2.1 pc = .ok (.lload i, 2)) (hl0 : ls[i]? = some (some (vl_ z))) (h : V_ l D y C (pc + 2) ls (vl_ z :: st) σ) : V_ l D y C pc ls st σ := by
  intro hR p e R s m args below meth c cells slots Q hC B H locs lsA hP hS hl
  exact lv_lload B.1 B.2.1 hd (ll_at hl hl0) (h hR p e R s m args below meth c cells slots Q hC B H locs lsA hP hS hl)
theorem V_aload_n {k : Fin 4} {i : Nat} {v : Option Nat} (hd : decode y.2.1 pc = .ok (.aload_n k, 1)) (hi : (k : Nat) = i) (hl0 : ls[i]? = some (some (.inr (.inr v)))) (h : V_ l D y C (pc + 1) ls (.inr (.inr v) :: st) σ) : V_ l D y C pc ls st σ := by
  intro hR p e R s m args below meth c cells slots Q hC B H locs lsA hP hS hl
  cases v with
  | none => exact lv_aload_nN B.1 B.2.1 hd hi (ll_at hl hl0) (h hR p e R s m args below meth c cells slots Q hC B H locs lsA hP hS hl)
  | some a => exact lv_aload_n B.1 B.2.1 hd hi (ll_at hl hl0) (h hR p e R s m args below meth c cells slots Q hC B H locs lsA hP hS hl)
theorem V_aload {i : Nat} {v : Option Nat} (hd : decode y.2.1 pc = .ok (.aload i, 2)) (hl0 : ls[i]? = some (some (.inr (.inr v)))) (h : V_ l D y C (pc + 2) ls (.inr (.inr v) :: st) σ) : V_ l D y C pc ls st σ := by
  intro hR p e R s m args below meth c cells slots Q hC B H locs lsA hP hS hl
  cases v with
  | none => exact lv_aloadN B.1 B.2.1 hd (ll_at hl hl0) (h hR p e R s m args below meth c cells slots Q hC B H locs lsA hP hS hl)
  | some a => exact lv_aload B.1 B.2.1 hd (ll_at hl hl0) (h hR p e R s m args below meth c cells slots Q hC B H locs lsA hP hS hl)
-- stores
theorem V_istore_n {k : Fin 4} {i : Nat} {z : Int} (hd : decode y.2.1 pc = .ok (.istore_n k, 1)) (hi : (k : Nat) = i) (hn : i < y.2.2.1) (hL : nl_ ls i = true) (h : V_ l D y C (pc + 1) (ls.set i (some (vi_ z))) st σ) : V_ l D y C pc ls (vi_ z :: st) σ := by
  intro hR p e R s m args below meth c cells slots Q hC B H locs lsA hP hS hl
  exact lv_istore_n B.1 B.2.1 hd hi hl hn rfl (fun ls' hl' => h hR p e R s m args below meth c cells slots Q hC B H locs ls' hP hS (ll_set hL hl'))
theorem V_istore {i : Nat} {z : Int} (hd : decode y.2.1 pc = .ok (.istore i, 2)) (hn : i < y.2.2.1) (hL : nl_ ls i = true) (h : V_ l D y C (pc + 2) (ls.set i (some (vi_ z))) st σ) : V_ l D y C pc ls (vi_ z :: st) σ := by
  intro hR p e R s m args below meth c cells slots Q hC B H locs lsA hP hS hl
  exact lv_istore B.1 B.2.1 hd hl hn rfl (fun ls' hl' => h hR p e R s m args below meth c cells slots Q hC B H locs ls' hP hS (ll_set hL hl'))
theorem V_lstore_n {k : Fin 4} {i : Nat} {z : Int} (hd : decode y.2.1 pc = .ok (.lstore_n k, 1)) (hi : (k : Nat) = i) (hn : i + 1 < y.2.2.1) (hL : nl_ ls i = true) (h : V_ l D y C (pc + 1) ((ls.set i (some (vl_ z))).set (i + 1) none) st σ) : V_ l D y C pc ls (vl_ z :: st) σ := by
  intro hR p e R s m args below meth c cells slots Q hC B H locs lsA hP hS hl
  exact lv_lstore_n B.1 B.2.1 hd hi hl hn rfl (fun ls' hl' => h hR p e R s m args below meth c cells slots Q hC B H locs ls' hP hS (ll_setL hL hl'))
theorem V_lstore {i : Nat} {z : Int} (hd : decode y.2.1 pc = .ok (.lstore i, 2)) (hn : i + 1 < y.2.2.1) (hL : nl_ ls i = true) (h : V_ l D y C (pc + 2) ((ls.set i (some (vl_ z))).set (i + 1) none) st σ) : V_ l D y C pc ls (vl_ z :: st) σ := by
  intro hR p e R s m args below meth c cells slots Q hC B H locs lsA hP hS hl
  exact lv_lstore B.1 B.2.1 hd hl hn rfl (fun ls' hl' => h hR p e R s m args below meth c cells slots Q hC B H locs ls' hP hS (ll_setL hL hl'))
theorem V_astore_n {k : Fin 4} {i : Nat} {v : Option Nat} (hd : decode y.2.1 pc = .ok (.astore_n k, 1)) (hi : (k : Nat) = i) (hn : i < y.2.2.1) (hL : nl_ ls i = true) (h : V_ l D y C (pc + 1) (ls.set i (some (.inr (.inr v)))) st σ) : V_ l D y C pc ls (.inr (.inr v) :: st) σ := by
  intro hR p e R s m args below meth c cells slots Q hC B H locs lsA hP hS hl
  cases v with
  | none => exact lv_astore_nN B.1 B.2.1 hd hi hl hn rfl (fun ls' hl' => h hR p e R s m args below meth c cells slots Q hC B H locs ls' hP hS (ll_set hL hl'))
  | some a => exact lv_astore_n B.1 B.2.1 hd hi hl hn rfl (fun ls' hl' => h hR p e R s m args below meth c cells slots Q hC B H locs ls' hP hS (ll_set hL hl'))
theorem V_astore {i : Nat} {v : Option Nat} (hd : decode y.2.1 pc = .ok (.astore i, 2)) (hn : i < y.2.2.1) (hL : nl_ ls i = true) (h : V_ l D y C (pc + 2) (ls.set i (some (.inr (.inr v)))) st σ) : V_ l D y C pc ls (.inr (.inr v) :: st) σ := by
  intro hR p e R s m args below meth c cells slots Q hC B H locs lsA hP hS hl
  cases v with
  | none => exact lv_astoreN B.1 B.2.1 hd hl hn rfl (fun ls' hl' => h hR p e R s m args below meth c cells slots Q hC B H locs ls' hP hS (ll_set hL hl'))
  | some a => exact lv_astore B.1 B.2.1 hd hl hn rfl (fun ls' hl' => h hR p e R s m args below meth c cells slots Q hC B H locs ls' hP hS (ll_set hL hl'))
theorem ll_atI {ad : Nat → Nat} {ls : List (Option Av_)} {k : Nat} {v : Av_} (h : ls[k]? = some (some v)) : ∃ j : Nat, (ll_ ad 0 ls)[j]? = some (k, av_ ad v) := by
  have h1 : (k, av_ ad v) ∈ ll_ ad 0 ls := ll_mem.mpr ⟨k, v, h, by simp⟩
  exact List.getElem?_of_mem h1
theorem V_iinc {i : Nat} {n z : Int} (hd : decode y.2.1 pc = .ok (.iinc i n, 3)) (hl0 : ls[i]? = some (some (vi_ z))) (hn : i < y.2.2.1) (hL : nl_ ls i = true) (h : V_ l D y C (pc + 3) (ls.set i (some (vi_ (z + n)))) st σ) : V_ l D y C pc ls st σ := by
  intro hR p e R s m args below meth c cells slots Q hC B H locs lsA hP hS hl
  obtain ⟨j, hj⟩ := ll_atI (ad := D.2.2) hl0
  exact lv_iinc B.1 B.2.1 hd hl hj (v := Int32.ofInt (z + n)) (by rw [Int32.ofInt_add]) hn rfl (fun ls' hl' => h hR p e R s m args below meth c cells slots Q hC B H locs ls' hP hS (ll_set (v := vi_ (z + n)) hL hl'))
-- arithmetic
theorem V_iadd {a b : Int} (hd : decode y.2.1 pc = .ok (.iadd, 1)) (h : V_ l D y C (pc + 1) ls (vi_ (a + b) :: st) σ) : V_ l D y C pc ls (vi_ b :: vi_ a :: st) σ := by
  intro hR p e R s m args below meth c cells slots Q hC B H locs lsA hP hS hl
  have h := h hR p e R s m args below meth c cells slots Q hC B H locs lsA hP hS hl
  refine lv_iadd B.1 B.2.1 hd ?_
  rw [← Int32.ofInt_add]
  exact h
theorem V_isub {a b : Int} (hd : decode y.2.1 pc = .ok (.isub, 1)) (h : V_ l D y C (pc + 1) ls (vi_ (a - b) :: st) σ) : V_ l D y C pc ls (vi_ b :: vi_ a :: st) σ := by
  intro hR p e R s m args below meth c cells slots Q hC B H locs lsA hP hS hl
  have h := h hR p e R s m args below meth c cells slots Q hC B H locs lsA hP hS hl
  refine lv_isub B.1 B.2.1 hd ?_
  rw [← Int32.ofInt_sub]
  exact h
theorem V_imul {a b : Int} (hd : decode y.2.1 pc = .ok (.imul, 1)) (h : V_ l D y C (pc + 1) ls (vi_ (a * b) :: st) σ) : V_ l D y C pc ls (vi_ b :: vi_ a :: st) σ := by
  intro hR p e R s m args below meth c cells slots Q hC B H locs lsA hP hS hl
  have h := h hR p e R s m args below meth c cells slots Q hC B H locs lsA hP hS hl
  refine lv_imul B.1 B.2.1 hd ?_
  rw [← Int32.ofInt_mul]
  exact h
theorem V_ladd {a b : Int} (hd : decode y.2.1 pc = .ok (.ladd, 1)) (h : V_ l D y C (pc + 1) ls (vl_ (a + b) :: st) σ) : V_ l D y C pc ls (vl_ b :: vl_ a :: st) σ := by
  intro hR p e R s m args below meth c cells slots Q hC B H locs lsA hP hS hl
  have h := h hR p e R s m args below meth c cells slots Q hC B H locs lsA hP hS hl
  refine lv_ladd B.1 B.2.1 hd ?_
  rw [← Int64.ofInt_add]
  exact h
theorem V_lsub {a b : Int} (hd : decode y.2.1 pc = .ok (.lsub, 1)) (h : V_ l D y C (pc + 1) ls (vl_ (a - b) :: st) σ) : V_ l D y C pc ls (vl_ b :: vl_ a :: st) σ := by
  intro hR p e R s m args below meth c cells slots Q hC B H locs lsA hP hS hl
  have h := h hR p e R s m args below meth c cells slots Q hC B H locs lsA hP hS hl
  refine lv_lsub B.1 B.2.1 hd ?_
  rw [← Int64.ofInt_sub]
  exact h
theorem V_lmul {a b : Int} (hd : decode y.2.1 pc = .ok (.lmul, 1)) (h : V_ l D y C (pc + 1) ls (vl_ (a * b) :: st) σ) : V_ l D y C pc ls (vl_ b :: vl_ a :: st) σ := by
  intro hR p e R s m args below meth c cells slots Q hC B H locs lsA hP hS hl
  have h := h hR p e R s m args below meth c cells slots Q hC B H locs lsA hP hS hl
  refine lv_lmul B.1 B.2.1 hd ?_
  rw [← Int64.ofInt_mul]
  exact h
end VROWS
end
section
/-! ## rows of V_: bits, division, branches, fields, arrays, ends -/
def iand_ (a b : Int) : Int := (Int32.ofInt a &&& Int32.ofInt b).toInt
def ior_ (a b : Int) : Int := (Int32.ofInt a ||| Int32.ofInt b).toInt
def ishl_ (a b : Int) : Int := (Int32.ofInt a <<< (Int32.ofInt b &&& 31)).toInt
def ishr_ (a b : Int) : Int := (Int32.ofInt a >>> (Int32.ofInt b &&& 31)).toInt
def iushr_ (a b : Int) : Int := ((Int32.ofInt a).toUInt32 >>> ((Int32.ofInt b).toUInt32 &&& Int32.toUInt32 31)).toInt32.toInt
def i2b_ (a : Int) : Int := (Int32.ofInt a).toInt8.toInt32.toInt
def i2s_ (a : Int) : Int := (Int32.ofInt a).toInt16.toInt32.toInt
def i2c_ (a : Int) : Int := ((Int32.ofInt a).toUInt32 % 65536).toInt32.toInt
def idiv_ (a b : Int) : Int := (Int32.ofInt a / Int32.ofInt b).toInt
def irem_ (a b : Int) : Int := (Int32.ofInt a - Int32.ofInt a / Int32.ofInt b * Int32.ofInt b).toInt
def ldiv_ (a b : Int) : Int := (Int64.ofInt a / Int64.ofInt b).toInt
def lrem_ (a b : Int) : Int := (Int64.ofInt a - Int64.ofInt a / Int64.ofInt b * Int64.ofInt b).toInt
def lcmp_ (a b : Int) : Int := if b < a then 1 else if a = b then 0 else -1
theorem lcmp_of {a b : Int} (ha : Rl_ a) (hb : Rl_ b) : lg_cmp (Int64.ofInt a) (Int64.ofInt b) = Int32.ofInt (lcmp_ a b) := by
  unfold lg_cmp lcmp_
  have h1 : (Int64.ofInt a > Int64.ofInt b) ↔ b < a := i6_lt hb ha
  have h2 : (Int64.ofInt a = Int64.ofInt b) ↔ a = b := i6_eq ha hb
  by_cases c1 : b < a
  · rw [if_pos (h1.mpr c1), if_pos c1]; rfl
  · rw [if_neg (fun z => c1 (h1.mp z)), if_neg c1]
    by_cases c2 : a = b
    · rw [if_pos (h2.mpr c2), if_pos c2]; rfl
    · rw [if_neg (fun z => c2 (h2.mp z)), if_neg c2]; rfl
section VROWS2
variable {l : Launch} {D : Dt_} {y : Mt_} {C : Cp_} {pc : Nat} {ls : List (Option Av_)} {st : List Av_} {σ : Mm_}
theorem V_iand {a b : Int} (hd : decode y.2.1 pc = .ok (.iand, 1)) (h : V_ l D y C (pc + 1) ls (vi_ (iand_ a b) :: st) σ) : V_ l D y C pc ls (vi_ b :: vi_ a :: st) σ := by
  intro hR p e R s m args below meth c cells slots Q hC B H locs lsA hP hS hl
  have h := h hR p e R s m args below meth c cells slots Q hC B H locs lsA hP hS hl
  refine lv_iand B.1 B.2.1 hd ?_
  rw [List.map_cons, show av_ D.2.2 (vi_ (iand_ a b)) = Value.int (Int32.ofInt (iand_ a b)) from rfl] at h
  unfold iand_ at h
  rw [i3_of] at h
  exact h
theorem V_ior {a b : Int} (hd : decode y.2.1 pc = .ok (.ior, 1)) (h : V_ l D y C (pc + 1) ls (vi_ (ior_ a b) :: st) σ) : V_ l D y C pc ls (vi_ b :: vi_ a :: st) σ := by
  intro hR p e R s m args below meth c cells slots Q hC B H locs lsA hP hS hl
  have h := h hR p e R s m args below meth c cells slots Q hC B H locs lsA hP hS hl
  refine lv_ior B.1 B.2.1 hd ?_
  rw [List.map_cons, show av_ D.2.2 (vi_ (ior_ a b)) = Value.int (Int32.ofInt (ior_ a b)) from rfl] at h
  unfold ior_ at h
  rw [i3_of] at h
  exact h
theorem V_ishl {a b : Int} (hd : decode y.2.1 pc = .ok (.ishl, 1)) (h : V_ l D y C (pc + 1) ls (vi_ (ishl_ a b) :: st) σ) : V_ l D y C pc ls (vi_ b :: vi_ a :: st) σ := by
  intro hR p e R s m args below meth c cells slots Q hC B H locs lsA hP hS hl
  have h := h hR p e R s m args below meth c cells slots Q hC B H locs lsA hP hS hl
  refine lv_ishl B.1 B.2.1 hd ?_
  rw [List.map_cons, show av_ D.2.2 (vi_ (ishl_ a b)) = Value.int (Int32.ofInt (ishl_ a b)) from rfl] at h
  unfold ishl_ at h
  rw [i3_of] at h
  exact h
theorem V_ishr {a b : Int} (hd : decode y.2.1 pc = .ok (.ishr, 1)) (h : V_ l D y C (pc + 1) ls (vi_ (ishr_ a b) :: st) σ) : V_ l D y C pc ls (vi_ b :: vi_ a :: st) σ := by
  intro hR p e R s m args below meth c cells slots Q hC B H locs lsA hP hS hl
  have h := h hR p e R s m args below meth c cells slots Q hC B H locs lsA hP hS hl
  refine lv_ishr B.1 B.2.1 hd ?_
  rw [List.map_cons, show av_ D.2.2 (vi_ (ishr_ a b)) = Value.int (Int32.ofInt (ishr_ a b)) from rfl] at h
  unfold ishr_ at h
  rw [i3_of] at h
  exact h
theorem V_idiv {a b : Int} (hd : decode y.2.1 pc = .ok (.idiv, 1)) (hb : Rg_ b) (h0 : b ≠ 0) (h : V_ l D y C (pc + 1) ls (vi_ (idiv_ a b) :: st) σ) : V_ l D y C pc ls (vi_ b :: vi_ a :: st) σ := by
  intro hR p e R s m args below meth c cells slots Q hC B H locs lsA hP hS hl
  have h := h hR p e R s m args below meth c cells slots Q hC B H locs lsA hP hS hl
  refine lv_idiv B.1 B.2.1 hd (fun z => h0 ((i3_eq hb (by decide)).mp z)) ?_
  rw [List.map_cons, show av_ D.2.2 (vi_ (idiv_ a b)) = Value.int (Int32.ofInt (idiv_ a b)) from rfl] at h
  unfold idiv_ at h
  rw [i3_of] at h
  exact h
theorem V_irem {a b : Int} (hd : decode y.2.1 pc = .ok (.irem, 1)) (hb : Rg_ b) (h0 : b ≠ 0) (h : V_ l D y C (pc + 1) ls (vi_ (irem_ a b) :: st) σ) : V_ l D y C pc ls (vi_ b :: vi_ a :: st) σ := by
  intro hR p e R s m args below meth c cells slots Q hC B H locs lsA hP hS hl
  have h := h hR p e R s m args below meth c cells slots Q hC B H locs lsA hP hS hl
  refine lv_irem B.1 B.2.1 hd (fun z => h0 ((i3_eq hb (by decide)).mp z)) ?_
  rw [List.map_cons, show av_ D.2.2 (vi_ (irem_ a b)) = Value.int (Int32.ofInt (irem_ a b)) from rfl] at h
  unfold irem_ at h
  rw [i3_of] at h
  exact h
theorem V_ldiv {a b : Int} (hd : decode y.2.1 pc = .ok (.ldiv, 1)) (hb : Rl_ b) (h0 : b ≠ 0) (h : V_ l D y C (pc + 1) ls (vl_ (ldiv_ a b) :: st) σ) : V_ l D y C pc ls (vl_ b :: vl_ a :: st) σ := by
  intro hR p e R s m args below meth c cells slots Q hC B H locs lsA hP hS hl
  have h := h hR p e R s m args below meth c cells slots Q hC B H locs lsA hP hS hl
  refine lv_ldiv B.1 B.2.1 hd (fun z => h0 ((i6_eq hb (by decide)).mp z)) ?_
  rw [List.map_cons, show av_ D.2.2 (vl_ (ldiv_ a b)) = Value.long (Int64.ofInt (ldiv_ a b)) from rfl] at h
  unfold ldiv_ at h
  rw [Int64.ofInt_toInt] at h
  exact h
theorem V_lrem {a b : Int} (hd : decode y.2.1 pc = .ok (.lrem, 1)) (hb : Rl_ b) (h0 : b ≠ 0) (h : V_ l D y C (pc + 1) ls (vl_ (lrem_ a b) :: st) σ) : V_ l D y C pc ls (vl_ b :: vl_ a :: st) σ := by
  intro hR p e R s m args below meth c cells slots Q hC B H locs lsA hP hS hl
  have h := h hR p e R s m args below meth c cells slots Q hC B H locs lsA hP hS hl
  refine lv_lrem B.1 B.2.1 hd (fun z => h0 ((i6_eq hb (by decide)).mp z)) ?_
  rw [List.map_cons, show av_ D.2.2 (vl_ (lrem_ a b)) = Value.long (Int64.ofInt (lrem_ a b)) from rfl] at h
  unfold lrem_ at h
  rw [Int64.ofInt_toInt] at h
  exact h
theorem V_iushr {a b : Int} (hd : decode y.2.1 pc = .ok (.iushr, 1)) (h : V_ l D y C (pc + 1) ls (vi_ (iushr_ a b) :: st) σ) : V_ l D y C pc ls (vi_ b :: vi_ a :: st) σ := by
  intro hR p e R s m args below meth c cells slots Q hC B H locs lsA hP hS hl
  exact lv_iushr B.1 B.2.1 hd (v := Int32.ofInt (iushr_ a b)) (by unfold iushr_; rw [i3_of]) (h hR p e R s m args below meth c cells slots Q hC B H locs lsA hP hS hl)
theorem V_i2b {a : Int} (hd : decode y.2.1 pc = .ok (.i2b, 1)) (h : V_ l D y C (pc + 1) ls (vi_ (i2b_ a) :: st) σ) : V_ l D y C pc ls (vi_ a :: st) σ := by
  intro hR p e R s m args below meth c cells slots Q hC B H locs lsA hP hS hl
  exact lv_i2b B.1 B.2.1 hd (v := Int32.ofInt (i2b_ a)) (by unfold i2b_; rw [i3_of]) (h hR p e R s m args below meth c cells slots Q hC B H locs lsA hP hS hl)
theorem V_i2s {a : Int} (hd : decode y.2.1 pc = .ok (.i2s, 1)) (h : V_ l D y C (pc + 1) ls (vi_ (i2s_ a) :: st) σ) : V_ l D y C pc ls (vi_ a :: st) σ := by
  intro hR p e R s m args below meth c cells slots Q hC B H locs lsA hP hS hl
  exact lv_i2s B.1 B.2.1 hd (v := Int32.ofInt (i2s_ a)) (by unfold i2s_; rw [i3_of]) (h hR p e R s m args below meth c cells slots Q hC B H locs lsA hP hS hl)
theorem V_i2l {a : Int} (hd : decode y.2.1 pc = .ok (.i2l, 1)) (ha : Rg_ a) (h : V_ l D y C (pc + 1) ls (vl_ a :: st) σ) : V_ l D y C pc ls (vi_ a :: st) σ := by
  intro hR p e R s m args below meth c cells slots Q hC B H locs lsA hP hS hl
  exact lv_i2l B.1 B.2.1 hd (v := Int64.ofInt a) (by rw [← Int64.toInt_inj, Int32.toInt_toInt64, i3_to ha, i6_to ⟨by have := ha.1; omega, by have := ha.2; omega⟩]) (h hR p e R s m args below meth c cells slots Q hC B H locs lsA hP hS hl)
theorem V_lcmp {a b : Int} (hd : decode y.2.1 pc = .ok (.lcmp, 1)) (ha : Rl_ a) (hb : Rl_ b) (h : V_ l D y C (pc + 1) ls (vi_ (lcmp_ a b) :: st) σ) : V_ l D y C pc ls (vl_ b :: vl_ a :: st) σ := by
  intro hR p e R s m args below meth c cells slots Q hC B H locs lsA hP hS hl
  refine W.lcmp B.1 B.2.1 hd ?_
  rw [lcmp_of ha hb]
  exact h hR p e R s m args below meth c cells slots Q hC B H locs lsA hP hS hl
theorem V_goto {off : Int} {tgt : Nat} (hd : decode y.2.1 pc = .ok (.goto off, 3)) (ht : (pc : Int) + off = (tgt : Int)) (h : V_ l D y C tgt ls st σ) : V_ l D y C pc ls st σ := by
  intro hR p e R s m args below meth c cells slots Q hC B H locs lsA hP hS hl
  exact lv_goto B.1 B.2.1 hd ht (h hR p e R s m args below meth c cells slots Q hC B H locs lsA hP hS hl)
theorem i0_rg : Rg_ 0 := by decide
theorem V_if_eq {a off : Int} {tgt : Nat} (hd : decode y.2.1 pc = .ok (.ifCond .eq off, 3)) (htg : (pc : Int) + off = (tgt : Int)) (ha : Rg_ a) (ht : a = 0 → V_ l D y C tgt ls st σ) (hf : a ≠ 0 → V_ l D y C (pc + 3) ls st σ) : V_ l D y C pc ls (vi_ a :: st) σ := by
  intro hR p e R s m args below meth c cells slots Q hC B H locs lsA hP hS hl
  exact lv_if_eq B.1 B.2.1 hd htg (fun z => (ht ((i3_eq ha i0_rg).mp z)) hR p e R s m args below meth c cells slots Q hC B H locs lsA hP hS hl) (fun z => (hf (fun q => z ((i3_eq ha i0_rg).mpr q))) hR p e R s m args below meth c cells slots Q hC B H locs lsA hP hS hl)
theorem V_if_ne {a off : Int} {tgt : Nat} (hd : decode y.2.1 pc = .ok (.ifCond .ne off, 3)) (htg : (pc : Int) + off = (tgt : Int)) (ha : Rg_ a) (ht : a ≠ 0 → V_ l D y C tgt ls st σ) (hf : a = 0 → V_ l D y C (pc + 3) ls st σ) : V_ l D y C pc ls (vi_ a :: st) σ := by
  intro hR p e R s m args below meth c cells slots Q hC B H locs lsA hP hS hl
  exact lv_if_ne B.1 B.2.1 hd htg (fun z => (ht (fun q => z ((i3_eq ha i0_rg).mpr q))) hR p e R s m args below meth c cells slots Q hC B H locs lsA hP hS hl) (fun z => (hf ((i3_eq ha i0_rg).mp z)) hR p e R s m args below meth c cells slots Q hC B H locs lsA hP hS hl)
theorem V_if_lt {a off : Int} {tgt : Nat} (hd : decode y.2.1 pc = .ok (.ifCond .lt off, 3)) (htg : (pc : Int) + off = (tgt : Int)) (ha : Rg_ a) (ht : a < 0 → V_ l D y C tgt ls st σ) (hf : 0 ≤ a → V_ l D y C (pc + 3) ls st σ) : V_ l D y C pc ls (vi_ a :: st) σ := by
  intro hR p e R s m args below meth c cells slots Q hC B H locs lsA hP hS hl
  exact lv_if_lt B.1 B.2.1 hd htg (fun z => (ht ((i3_lt ha i0_rg).mp z)) hR p e R s m args below meth c cells slots Q hC B H locs lsA hP hS hl) (fun z => (hf (Int.not_lt.mp (fun q => z ((i3_lt ha i0_rg).mpr q)))) hR p e R s m args below meth c cells slots Q hC B H locs lsA hP hS hl)
theorem V_if_ge {a off : Int} {tgt : Nat} (hd : decode y.2.1 pc = .ok (.ifCond .ge off, 3)) (htg : (pc : Int) + off = (tgt : Int)) (ha : Rg_ a) (ht : 0 ≤ a → V_ l D y C tgt ls st σ) (hf : a < 0 → V_ l D y C (pc + 3) ls st σ) : V_ l D y C pc ls (vi_ a :: st) σ := by
  intro hR p e R s m args below meth c cells slots Q hC B H locs lsA hP hS hl
  exact lv_if_ge B.1 B.2.1 hd htg (fun z => (ht ((i3_le i0_rg ha).mp z)) hR p e R s m args below meth c cells slots Q hC B H locs lsA hP hS hl) (fun z => (hf (Int.not_le.mp (fun q => z ((i3_le i0_rg ha).mpr q)))) hR p e R s m args below meth c cells slots Q hC B H locs lsA hP hS hl)
theorem V_if_gt {a off : Int} {tgt : Nat} (hd : decode y.2.1 pc = .ok (.ifCond .gt off, 3)) (htg : (pc : Int) + off = (tgt : Int)) (ha : Rg_ a) (ht : 0 < a → V_ l D y C tgt ls st σ) (hf : a ≤ 0 → V_ l D y C (pc + 3) ls st σ) : V_ l D y C pc ls (vi_ a :: st) σ := by
  intro hR p e R s m args below meth c cells slots Q hC B H locs lsA hP hS hl
  exact lv_if_gt B.1 B.2.1 hd htg (fun z => (ht ((i3_lt i0_rg ha).mp z)) hR p e R s m args below meth c cells slots Q hC B H locs lsA hP hS hl) (fun z => (hf (Int.not_lt.mp (fun q => z ((i3_lt i0_rg ha).mpr q)))) hR p e R s m args below meth c cells slots Q hC B H locs lsA hP hS hl)
theorem V_if_le {a off : Int} {tgt : Nat} (hd : decode y.2.1 pc = .ok (.ifCond .le off, 3)) (htg : (pc : Int) + off = (tgt : Int)) (ha : Rg_ a) (ht : a ≤ 0 → V_ l D y C tgt ls st σ) (hf : 0 < a → V_ l D y C (pc + 3) ls st σ) : V_ l D y C pc ls (vi_ a :: st) σ := by
  intro hR p e R s m args below meth c cells slots Q hC B H locs lsA hP hS hl
  exact lv_if_le B.1 B.2.1 hd htg (fun z => (ht ((i3_le ha i0_rg).mp z)) hR p e R s m args below meth c cells slots Q hC B H locs lsA hP hS hl) (fun z => (hf (Int.not_le.mp (fun q => z ((i3_le ha i0_rg).mpr q)))) hR p e R s m args below meth c cells slots Q hC B H locs lsA hP hS hl)
theorem V_icmp_eq {a b off : Int} {tgt : Nat} (hd : decode y.2.1 pc = .ok (.if_icmp .eq off, 3)) (htg : (pc : Int) + off = (tgt : Int)) (ha : Rg_ a) (hb : Rg_ b) (ht : a = b → V_ l D y C tgt ls st σ) (hf : a ≠ b → V_ l D y C (pc + 3) ls st σ) : V_ l D y C pc ls (vi_ b :: vi_ a :: st) σ := by
  intro hR p e R s m args below meth c cells slots Q hC B H locs lsA hP hS hl
  exact lv_icmp_eq B.1 B.2.1 hd htg (fun z => (ht ((i3_eq ha hb).mp z)) hR p e R s m args below meth c cells slots Q hC B H locs lsA hP hS hl) (fun z => (hf (fun q => z ((i3_eq ha hb).mpr q))) hR p e R s m args below meth c cells slots Q hC B H locs lsA hP hS hl)
theorem V_icmp_ne {a b off : Int} {tgt : Nat} (hd : decode y.2.1 pc = .ok (.if_icmp .ne off, 3)) (htg : (pc : Int) + off = (tgt : Int)) (ha : Rg_ a) (hb : Rg_ b) (ht : a ≠ b → V_ l D y C tgt ls st σ) (hf : a = b → V_ l D y C (pc + 3) ls st σ) : V_ l D y C pc ls (vi_ b :: vi_ a :: st) σ := by
  intro hR p e R s m args below meth c cells slots Q hC B H locs lsA hP hS hl
  exact lv_icmp_ne B.1 B.2.1 hd htg (fun z => (ht (fun q => z ((i3_eq ha hb).mpr q))) hR p e R s m args below meth c cells slots Q hC B H locs lsA hP hS hl) (fun z => (hf ((i3_eq ha hb).mp z)) hR p e R s m args below meth c cells slots Q hC B H locs lsA hP hS hl)
theorem V_icmp_lt {a b off : Int} {tgt : Nat} (hd : decode y.2.1 pc = .ok (.if_icmp .lt off, 3)) (htg : (pc : Int) + off = (tgt : Int)) (ha : Rg_ a) (hb : Rg_ b) (ht : a < b → V_ l D y C tgt ls st σ) (hf : b ≤ a → V_ l D y C (pc + 3) ls st σ) : V_ l D y C pc ls (vi_ b :: vi_ a :: st) σ := by
  intro hR p e R s m args below meth c cells slots Q hC B H locs lsA hP hS hl
  exact lv_icmp_lt B.1 B.2.1 hd htg (fun z => (ht ((i3_lt ha hb).mp z)) hR p e R s m args below meth c cells slots Q hC B H locs lsA hP hS hl) (fun z => (hf (Int.not_lt.mp (fun q => z ((i3_lt ha hb).mpr q)))) hR p e R s m args below meth c cells slots Q hC B H locs lsA hP hS hl)
theorem V_icmp_ge {a b off : Int} {tgt : Nat} (hd : decode y.2.1 pc = .ok (.if_icmp .ge off, 3)) (htg : (pc : Int) + off = (tgt : Int)) (ha : Rg_ a) (hb : Rg_ b) (ht : b ≤ a → V_ l D y C tgt ls st σ) (hf : a < b → V_ l D y C (pc + 3) ls st σ) : V_ l D y C pc ls (vi_ b :: vi_ a :: st) σ := by
  intro hR p e R s m args below meth c cells slots Q hC B H locs lsA hP hS hl
  exact lv_icmp_ge B.1 B.2.1 hd htg (fun z => (ht ((i3_le hb ha).mp z)) hR p e R s m args below meth c cells slots Q hC B H locs lsA hP hS hl) (fun z => (hf (Int.not_le.mp (fun q => z ((i3_le hb ha).mpr q)))) hR p e R s m args below meth c cells slots Q hC B H locs lsA hP hS hl)
theorem V_icmp_gt {a b off : Int} {tgt : Nat} (hd : decode y.2.1 pc = .ok (.if_icmp .gt off, 3)) (htg : (pc : Int) + off = (tgt : Int)) (ha : Rg_ a) (hb : Rg_ b) (ht : b < a → V_ l D y C tgt ls st σ) (hf : a ≤ b → V_ l D y C (pc + 3) ls st σ) : V_ l D y C pc ls (vi_ b :: vi_ a :: st) σ := by
  intro hR p e R s m args below meth c cells slots Q hC B H locs lsA hP hS hl
  exact lv_icmp_gt B.1 B.2.1 hd htg (fun z => (ht ((i3_lt hb ha).mp z)) hR p e R s m args below meth c cells slots Q hC B H locs lsA hP hS hl) (fun z => (hf (Int.not_lt.mp (fun q => z ((i3_lt hb ha).mpr q)))) hR p e R s m args below meth c cells slots Q hC B H locs lsA hP hS hl)
theorem V_icmp_le {a b off : Int} {tgt : Nat} (hd : decode y.2.1 pc = .ok (.if_icmp .le off, 3)) (htg : (pc : Int) + off = (tgt : Int)) (ha : Rg_ a) (hb : Rg_ b) (ht : a ≤ b → V_ l D y C tgt ls st σ) (hf : b < a → V_ l D y C (pc + 3) ls st σ) : V_ l D y C pc ls (vi_ b :: vi_ a :: st) σ := by
  intro hR p e R s m args below meth c cells slots Q hC B H locs lsA hP hS hl
  exact lv_icmp_le B.1 B.2.1 hd htg (fun z => (ht ((i3_le ha hb).mp z)) hR p e R s m args below meth c cells slots Q hC B H locs lsA hP hS hl) (fun z => (hf (Int.not_le.mp (fun q => z ((i3_le ha hb).mpr q)))) hR p e R s m args below meth c cells slots Q hC B H locs lsA hP hS hl)
theorem V_ifnull {v : Option Nat} {off : Int} {tgt : Nat} (hd : decode y.2.1 pc = .ok (.ifnull off, 3)) (htg : (pc : Int) + off = (tgt : Int)) (ht : v = none → V_ l D y C tgt ls st σ) (hf : ∀ k, v = some k → V_ l D y C (pc + 3) ls st σ) : V_ l D y C pc ls (.inr (.inr v) :: st) σ := by
  intro hR p e R s m args below meth c cells slots Q hC B H locs lsA hP hS hl
  cases v with
  | none => exact lv_ifnullN B.1 B.2.1 hd htg (ht rfl hR p e R s m args below meth c cells slots Q hC B H locs lsA hP hS hl)
  | some k => exact lv_ifnull B.1 B.2.1 hd (hf k rfl hR p e R s m args below meth c cells slots Q hC B H locs lsA hP hS hl)
theorem V_ifnonnull {v : Option Nat} {off : Int} {tgt : Nat} (hd : decode y.2.1 pc = .ok (.ifnonnull off, 3)) (htg : (pc : Int) + off = (tgt : Int)) (ht : ∀ k, v = some k → V_ l D y C tgt ls st σ) (hf : v = none → V_ l D y C (pc + 3) ls st σ) : V_ l D y C pc ls (.inr (.inr v) :: st) σ := by
  intro hR p e R s m args below meth c cells slots Q hC B H locs lsA hP hS hl
  cases v with
  | none => exact lv_ifnonnullN B.1 B.2.1 hd (hf rfl hR p e R s m args below meth c cells slots Q hC B H locs lsA hP hS hl)
  | some k => exact lv_ifnonnull B.1 B.2.1 hd htg (ht k rfl hR p e R s m args below meth c cells slots Q hC B H locs lsA hP hS hl)
theorem V_tableOut {dflt lo hi z : Int} {offs : Array Int} {len tgt : Nat} (hd : decode y.2.1 pc = .ok (.tableswitch dflt lo hi offs, len)) (hz : Rg_ z) (ho : z < lo ∨ hi < z) (htg : (pc : Int) + dflt = (tgt : Int)) (h : V_ l D y C tgt ls st σ) : V_ l D y C pc ls (vi_ z :: st) σ := by
  intro hR p e R s m args below meth c cells slots Q hC B H locs lsA hP hS hl
  exact lv_tableOut B.1 B.2.1 hd (by rw [i3_to hz]; exact ho) htg (h hR p e R s m args below meth c cells slots Q hC B H locs lsA hP hS hl)
theorem V_tableIn {dflt lo hi z off : Int} {offs : Array Int} {len tgt : Nat} (hd : decode y.2.1 pc = .ok (.tableswitch dflt lo hi offs, len)) (hz : Rg_ z) (h1 : ¬ z < lo) (h2 : ¬ hi < z) (ho : offs[(z - lo).toNat]? = some off) (htg : (pc : Int) + off = (tgt : Int)) (h : V_ l D y C tgt ls st σ) : V_ l D y C pc ls (vi_ z :: st) σ := by
  intro hR p e R s m args below meth c cells slots Q hC B H locs lsA hP hS hl
  exact lv_tableIn B.1 B.2.1 hd (by rw [i3_to hz]; exact h1) (by rw [i3_to hz]; exact h2) (by rw [i3_to hz]; exact ho) htg (h hR p e R s m args below meth c cells slots Q hC B H locs lsA hP hS hl)
theorem V_lookup {dflt z off : Int} {ps : Array (Int × Int)} {len tgt : Nat} (hd : decode y.2.1 pc = .ok (.lookupswitch dflt ps, len)) (hp : (ps.toList.zip (ps.toList.drop 1)).all (fun (a, next) => a.1 < next.1) = true) (hz : Rg_ z) (ho : Op.lookupswitch.offset ps.toList dflt z = off) (htg : (pc : Int) + off = (tgt : Int)) (h : V_ l D y C tgt ls st σ) : V_ l D y C pc ls (vi_ z :: st) σ := by
  intro hR p e R s m args below meth c cells slots Q hC B H locs lsA hP hS hl
  exact lv_lookup B.1 B.2.1 hd hp (by rw [i3_to hz]; exact ho) htg (h hR p e R s m args below meth c cells slots Q hC B H locs lsA hP hS hl)
def c1_ (v : Av_) : Bool := match v with
  | .inr (.inl _) => false
  | _ => true
theorem c1_cat {ad : Nat → Nat} {v : Av_} (h : c1_ v = true) : (av_ ad v).category = 1 := by
  match v, h with
  | .inl z, _ => rfl
  | .inr (.inr (some k)), _ => rfl
  | .inr (.inr none), _ => rfl
theorem V_dup {v : Av_} (hd : decode y.2.1 pc = .ok (.dup, 1)) (hv : c1_ v = true) (h : V_ l D y C (pc + 1) ls (v :: v :: st) σ) : V_ l D y C pc ls (v :: st) σ := by
  intro hR p e R s m args below meth c cells slots Q hC B H locs lsA hP hS hl
  exact lv_dup B.1 B.2.1 hd (c1_cat hv) (h hR p e R s m args below meth c cells slots Q hC B H locs lsA hP hS hl)
theorem V_dup2 {v w : Av_} (hd : decode y.2.1 pc = .ok (.dup2, 1)) (hv : c1_ v = true) (hw : c1_ w = true) (h : V_ l D y C (pc + 1) ls (v :: w :: v :: w :: st) σ) : V_ l D y C pc ls (v :: w :: st) σ := by
  intro hR p e R s m args below meth c cells slots Q hC B H locs lsA hP hS hl
  exact lv_dup2_11 B.1 B.2.1 hd (c1_cat hv) (c1_cat hw) (h hR p e R s m args below meth c cells slots Q hC B H locs lsA hP hS hl)
theorem V_pop {v : Av_} (hd : decode y.2.1 pc = .ok (.pop, 1)) (hv : c1_ v = true) (h : V_ l D y C (pc + 1) ls st σ) : V_ l D y C pc ls (v :: st) σ := by
  intro hR p e R s m args below meth c cells slots Q hC B H locs lsA hP hS hl
  exact lv_pop B.1 B.2.1 hd (c1_cat hv) (h hR p e R s m args below meth c cells slots Q hC B H locs lsA hP hS hl)
/-- entry idx of class own links field j of class ci -/
def Fl_ (own : String) (idx ci j : Nat) : Prop := ∃ (C : String) (T : u_T) (N : Nat), vwCl[ci]? = some (C, T, N) ∧ j < N ∧ (∀ w ∈ u_ws C T N, w ∈ gw_) ∧ Cond.fieldLink own idx (T j).1 (T j).2.1 (T j).2.2.1 ∈ gw_
theorem gG_ob {k ci : Nat} {fs : List (Option Nat)} (h : gG_[k]? = some (ob_ ci fs)) {D : Dt_} {σ : Mm_} : (wd_ D σ)[k]? = some (D.2.2 k, .inr (ci, fs.mapIdx (fd_ D (σ k)))) := wd_get h
theorem V_geti {own : String} {idx ci j k : Nat} {fs : List (Option Nat)} (hd : decode y.2.1 pc = .ok (.getfield idx, 3)) (hF : Fl_ own idx ci j) (hown : own = y.1.cls) (hk : gG_[k]? = some (ob_ ci fs)) (hj : fs[j]? = some none) (h : Rg_ (σ k j) → V_ l D y C (pc + 3) ls (vi_ (σ k j) :: st) σ) : V_ l D y C pc ls (vr_ k :: st) σ := by
  intro hR p e R s m args below meth c cells slots Q hC B H locs lsA hP hS hl
  obtain ⟨C0, T0, N0, h1, h2, h3, h4⟩ := hF
  subst hown
  exact va_get (C := C0) (T := T0) (N := N0) B.1 B.2.1 B.2.2.2.2.2.1 h3 B.2.2.2.2.1 B.2.2.2.2.2.2.1 hP k (gG_ob hk) h1 j h2 (B.2.2.2.2.2.1 _ h4) (fun _ z => z) (v := .int (Int32.ofInt (σ k j))) (by rw [List.getElem?_mapIdx, hj]; rfl) hd (h (hR k j) hR p e R s m args below meth c cells slots Q hC B H locs lsA hP hS hl)
theorem V_getr {own : String} {idx ci j k a : Nat} {fs : List (Option Nat)} (hd : decode y.2.1 pc = .ok (.getfield idx, 3)) (hF : Fl_ own idx ci j) (hown : own = y.1.cls) (hk : gG_[k]? = some (ob_ ci fs)) (hj : fs[j]? = some (some a)) (h : V_ l D y C (pc + 3) ls (vr_ a :: st) σ) : V_ l D y C pc ls (vr_ k :: st) σ := by
  intro hR p e R s m args below meth c cells slots Q hC B H locs lsA hP hS hl
  obtain ⟨C0, T0, N0, h1, h2, h3, h4⟩ := hF
  subst hown
  exact va_get (C := C0) (T := T0) (N := N0) B.1 B.2.1 B.2.2.2.2.2.1 h3 B.2.2.2.2.1 B.2.2.2.2.2.2.1 hP k (gG_ob hk) h1 j h2 (B.2.2.2.2.2.1 _ h4) (fun _ z => z) (v := .ref (D.2.2 a)) (by rw [List.getElem?_mapIdx, hj]; rfl) hd (h hR p e R s m args below meth c cells slots Q hC B H locs lsA hP hS hl)
theorem ob_set {D : Dt_} {σ : Mm_} {k ci j : Nat} {v : Int} {fs : List (Option Nat)} (hk : gG_[k]? = some (ob_ ci fs)) (hj : fs[j]? = some none) :
    (wd_ D σ).set k (D.2.2 k, .inr (ci, (fs.mapIdx (fd_ D (σ k))).set j (.int (Int32.ofInt v)))) = wd_ D (ms_ σ k j v) := by
  rw [ms_row]
  refine wd_upd hk _ ?_
  show _ = Sum.inr (ci, _)
  refine congrArg (fun z => (Sum.inr (ci, z) : va_E)) ?_
  apply List.ext_getElem?
  intro i
  rw [List.getElem?_set]
  by_cases hi : j = i
  · subst hi
    have : j < fs.length := (List.getElem?_eq_some_iff.mp hj).1
    simp only [List.length_mapIdx, this, if_true, List.getElem?_mapIdx, hj, Option.map_some, fd_]
  · have : ¬ (i = j) := fun z => hi z.symm
    simp only [if_neg hi, List.getElem?_mapIdx]
    cases fs[i]? with
    | none => rfl
    | some o => cases o <;> simp [fd_, this]
theorem ia_set {D : Dt_} {σ : Mm_} {k t n i : Nat} {v : Int} (hk : gG_[k]? = some (.inr (.inl (t, n)))) :
    (wd_ D σ).set k (D.2.2 k, .inl ((if t = 0 then D.2.1.1 else D.2.1.2.1), n, .inl (upd (fun j => Int32.ofInt (σ k j)) i (Int32.ofInt v)))) = wd_ D (ms_ σ k i v) := by
  rw [ms_row]
  refine wd_upd hk _ ?_
  show _ = Sum.inl ((if t = 0 then D.2.1.1 else D.2.1.2.1), n, Sum.inl _)
  refine congrArg (fun z => (Sum.inl ((if t = 0 then D.2.1.1 else D.2.1.2.1), n, Sum.inl z) : va_E)) ?_
  funext b
  unfold upd
  by_cases h : b = i <;> simp [h]
theorem V_puti {own : String} {idx ci j k : Nat} {v : Int} {ty : FieldType} {fs : List (Option Nat)} (hd : decode y.2.1 pc = .ok (.putfield idx, 3)) (hF : Fl_ own idx ci j) (hown : own = y.1.cls) (hk : gG_[k]? = some (ob_ ci fs)) (hj : fs[j]? = some none) (hq : ∀ C T N, vwCl[ci]? = some (C, T, N) → ((T j).2.2.2 = false ∧ parseFieldDescriptor (T j).2.2.1 = some ty) ∧ (∀ a, a < N → ∀ b, b < N → a ≠ b → (T a).2.1 ≠ (T b).2.1) ∧ ∃ t0 : Nat → FieldType, ∀ k, k < N → parseFieldDescriptor (T k).2.2.1 = some (t0 k)) (hn : narrow ty (.int (Int32.ofInt v)) = .int (Int32.ofInt v)) (hfit : fits ty (.int (Int32.ofInt v)) = true) (hv : Rg_ v) (h : V_ l D y C (pc + 3) ls st (ms_ σ k j v)) : V_ l D y C pc ls (vi_ v :: vr_ k :: st) σ := by
  intro hR p e R s m args below meth c cells slots Q hC B H locs lsA hP hS hl
  obtain ⟨C0, T0, N0, h1, h2, h3, h4⟩ := hF
  subst hown
  obtain ⟨⟨q1, q2⟩, q3, t0, q4⟩ := hq _ _ _ h1
  refine va_put (C := C0) (T := T0) (N := N0) B.1 B.2.1 B.2.2.2.2.2.1 h3 t0 q4 q3 B.2.2.2.2.1 B.2.2.2.2.2.2.1 hP (D_wd B.2.2.2.2.2.2.2.2.2.1) hS k (gG_ob hk) h1 j h2 (B.2.2.2.2.2.1 _ h4) (fun _ z => z) q1 q2 hn hfit ?_ hd ?_
  · rw [List.length_mapIdx]
    exact (List.getElem?_eq_some_iff.mp hj).1
  · intro H1 locs1 hP1 hD1 hS1
    have hP1 := (ob_set (D := D) (σ := σ) (v := v) hk hj) ▸ hP1
    exact h (hR.ms hv) p e R s m args below meth c cells slots Q hC B H1 locs1 lsA hP1 hS1 hl
theorem V_iald {k n : Nat} {i : Int} (hd : decode y.2.1 pc = .ok (.iaload, 1)) (hk : gG_[k]? = some (ia_ n)) (hi : 0 ≤ i ∧ i < (n : Int)) (hn : n < 2147483648) (h : Rg_ (σ k i.toNat) → V_ l D y C (pc + 1) ls (vi_ (σ k i.toNat) :: st) σ) : V_ l D y C pc ls (vi_ i :: vr_ k :: st) σ := by
  intro hR p e R s m args below meth c cells slots Q hC B H locs lsA hP hS hl
  refine va_iald B.1 B.2.1 B.2.2.2.2.2.2.1 hP k 0 (wd_get hk) rfl (i3_in hi.1 hi.2 hn) hd ?_
  rw [i3_nn hi.1 (by omega)]
  exact h (hR _ _) hR p e R s m args below meth c cells slots Q hC B H locs lsA hP hS hl
theorem V_zald {k n : Nat} {i : Int} (hd : decode y.2.1 pc = .ok (.baload, 1)) (hk : gG_[k]? = some (za_ n)) (hi : 0 ≤ i ∧ i < (n : Int)) (hn : n < 2147483648) (h : Rg_ (σ k i.toNat) → V_ l D y C (pc + 1) ls (vi_ (σ k i.toNat) :: st) σ) : V_ l D y C pc ls (vi_ i :: vr_ k :: st) σ := by
  intro hR p e R s m args below meth c cells slots Q hC B H locs lsA hP hS hl
  refine va_zald B.1 B.2.1 B.2.2.2.2.2.2.1 hP k 1 (wd_get hk) rfl (i3_in hi.1 hi.2 hn) hd ?_
  rw [i3_nn hi.1 (by omega)]
  exact h (hR _ _) hR p e R s m args below meth c cells slots Q hC B H locs lsA hP hS hl
theorem V_iast {k n : Nat} {i v : Int} (hd : decode y.2.1 pc = .ok (.iastore, 1)) (hk : gG_[k]? = some (ia_ n)) (hi : 0 ≤ i ∧ i < (n : Int)) (hn : n < 2147483648) (hv : Rg_ v) (h : V_ l D y C (pc + 1) ls st (ms_ σ k i.toNat v)) : V_ l D y C pc ls (vi_ v :: vi_ i :: vr_ k :: st) σ := by
  intro hR p e R s m args below meth c cells slots Q hC B H locs lsA hP hS hl
  refine va_iast B.1 B.2.1 B.2.2.2.2.2.2.1 hP (D_wd B.2.2.2.2.2.2.2.2.2.1) hS k 0 (wd_get hk) rfl (i3_in hi.1 hi.2 hn) hd ?_
  intro H1 locs1 hP1 hD1 hS1
  rw [i3_nn hi.1 (by omega)] at hP1
  have hP1 := (ia_set (D := D) (σ := σ) (v := v) (i := i.toNat) hk) ▸ hP1
  exact h (hR.ms hv) p e R s m args below meth c cells slots Q hC B H1 locs1 lsA hP1 hS1 hl
theorem V_zast {k n : Nat} {i v : Int} (hd : decode y.2.1 pc = .ok (.bastore, 1)) (hk : gG_[k]? = some (za_ n)) (hi : 0 ≤ i ∧ i < (n : Int)) (hn : n < 2147483648) (hv : v = 0 ∨ v = 1) (h : V_ l D y C (pc + 1) ls st (ms_ σ k i.toNat v)) : V_ l D y C pc ls (vi_ v :: vi_ i :: vr_ k :: st) σ := by
  intro hR p e R s m args below meth c cells slots Q hC B H locs lsA hP hS hl
  refine va_zast B.1 B.2.1 B.2.2.2.2.2.2.1 hP (D_wd B.2.2.2.2.2.2.2.2.2.1) hS k 1 (wd_get hk) rfl (i3_in hi.1 hi.2 hn) hd ?_
  intro H1 locs1 hP1 hD1 hS1
  rw [i3_nn hi.1 (by omega), show vp_nar .boolean (Int32.ofInt v) = Int32.ofInt v by rcases hv with rfl | rfl <;> rfl] at hP1
  have hP1 := (ia_set (D := D) (σ := σ) (v := v) (i := i.toNat) hk) ▸ hP1
  exact h (hR.ms (by rcases hv with rfl | rfl <;> decide)) p e R s m args below meth c cells slots Q hC B H1 locs1 lsA hP1 hS1 hl
theorem V_alen {k n : Nat} (hd : decode y.2.1 pc = .ok (.arraylength, 1)) (hk : gG_[k]? = some (ia_ n)) (h : V_ l D y C (pc + 1) ls (vi_ (n : Int) :: st) σ) : V_ l D y C pc ls (vr_ k :: st) σ := by
  intro hR p e R s m args below meth c cells slots Q hC B H locs lsA hP hS hl
  exact va_alen B.1 B.2.1 B.2.2.2.2.2.2.1 hP k 0 (wd_get hk) (ty := .int) rfl (v := Int32.ofInt (n : Int)) (by rfl) hd (h hR p e R s m args below meth c cells slots Q hC B H locs lsA hP hS hl)
theorem V_alenz {k n : Nat} (hd : decode y.2.1 pc = .ok (.arraylength, 1)) (hk : gG_[k]? = some (za_ n)) (h : V_ l D y C (pc + 1) ls (vi_ (n : Int) :: st) σ) : V_ l D y C pc ls (vr_ k :: st) σ := by
  intro hR p e R s m args below meth c cells slots Q hC B H locs lsA hP hS hl
  exact va_alen B.1 B.2.1 B.2.2.2.2.2.2.1 hP k 1 (wd_get hk) (ty := .boolean) rfl (v := Int32.ofInt (n : Int)) (by rfl) hd (h hR p e R s m args below meth c cells slots Q hC B H locs lsA hP hS hl)
theorem V_aald {k a : Nat} {ids : List Nat} {i : Int} (hd : decode y.2.1 pc = .ok (.aaload, 1)) (hk : gG_[k]? = some (ra_ ids)) (hi : 0 ≤ i ∧ i < (ids.length : Int)) (hn : ids.length < 2147483648) (ha : ids[i.toNat]? = some a) (h : V_ l D y C (pc + 1) ls (vr_ a :: st) σ) : V_ l D y C pc ls (vi_ i :: vr_ k :: st) σ := by
  intro hR p e R s m args below meth c cells slots Q hC B H locs lsA hP hS hl
  refine va_aldq B.1 B.2.1 B.2.2.2.2.2.2.1 hP k 2 (wd_get hk) rfl (i3_in hi.1 hi.2 hn) hd ?_
  rw [i3_nn hi.1 (by omega), ha]
  exact h hR p e R s m args below meth c cells slots Q hC B H locs lsA hP hS hl
theorem V_ireturn {post : Option Av_ → Mm_ → Prop} {ty : FieldType} {z : Int} (hd : decode y.2.1 pc = .ok (.ireturn, 1)) (hr : y.2.2.2.1 = some ty) (hn : narrow ty (.int (Int32.ofInt z)) = .int (Int32.ofInt z)) (h : RM_ σ → post (some (vi_ z)) σ) : V_ l D y (CM_ D y post) pc ls [vi_ z] σ := by
  intro hR p e R s m args below meth c cells slots Q hC B H locs lsA hP hS hl
  obtain ⟨rfl, rfl, rfl, rfl⟩ := hC
  exact W.zret B.1 B.2.1 (B.2.2.1.trans hr) hn (fun t ht _ => ⟨⟨some (vi_ z), σ, rfl, h hR, hR, by rw [ht]; exact hP⟩, hS.F ht⟩) hS.2.2 hd B.2.2.2.2.2.2.2.1
theorem V_lreturn {post : Option Av_ → Mm_ → Prop} {z : Int} (hd : decode y.2.1 pc = .ok (.lreturn, 1)) (hr : y.2.2.2.1 = some .long) (h : RM_ σ → post (some (vl_ z)) σ) : V_ l D y (CM_ D y post) pc ls [vl_ z] σ := by
  intro hR p e R s m args below meth c cells slots Q hC B H locs lsA hP hS hl
  obtain ⟨rfl, rfl, rfl, rfl⟩ := hC
  exact W.lret B.1 B.2.1 (B.2.2.1.trans hr) (fun t ht _ => ⟨⟨some (vl_ z), σ, rfl, h hR, hR, by rw [ht]; exact hP⟩, hS.F ht⟩) hS.2.2 hd B.2.2.2.2.2.2.2.1
theorem V_return {post : Option Av_ → Mm_ → Prop} (hd : decode y.2.1 pc = .ok (.return_, 1)) (hr : y.2.2.2.1 = none) (h : RM_ σ → post none σ) : V_ l D y (CM_ D y post) pc ls [] σ := by
  intro hR p e R s m args below meth c cells slots Q hC B H locs lsA hP hS hl
  obtain ⟨rfl, rfl, rfl, rfl⟩ := hC
  exact W.vret B.1 B.2.1 (B.2.2.1.trans hr) (fun t ht _ => ⟨⟨none, σ, rfl, h hR, hR, by rw [ht]; exact hP⟩, hS.F ht⟩) hS.2.2 hd B.2.2.2.2.2.2.2.1
theorem V_areturn {post : Option Av_ → Mm_ → Prop} {v : Option Nat} {rt : FieldType} (hd : decode y.2.1 pc = .ok (.areturn, 1)) (hr : y.2.2.2.1 = some rt) (hrt : (∃ n, rt = .object n) ∨ ∃ t, rt = .array t) (h : RM_ σ → post (some (.inr (.inr v))) σ) : V_ l D y (CM_ D y post) pc ls [.inr (.inr v)] σ := by
  intro hR p e R s m args below meth c cells slots Q hC B H locs lsA hP hS hl
  obtain ⟨rfl, rfl, rfl, rfl⟩ := hC
  exact W.aret B.1 B.2.1 (B.2.2.1.trans hr) hrt (by cases v with | none => exact Or.inl rfl | some a => exact Or.inr ⟨_, rfl⟩) (fun t ht _ => ⟨⟨some (.inr (.inr v)), σ, rfl, h hR, hR, by rw [ht]; exact hP⟩, hS.F ht⟩) hS.2.2 hd B.2.2.2.2.2.2.2.1
end VROWS2
end
section
/-! ## calls -/
theorem good_in {ws : List Cond} (h : ∀ w ∈ ws, w ∈ gw_) : GoodIn gw_ ws := fun w hw => ⟨h w hw, good_of_word (List.mem_filter.mp (h w hw)).2⟩
/-- the locals at a method's entry -/
def en_ : List Av_ → List (Option Av_)
  | [] => []
  | v :: t => match v with
    | .inr (.inl z) => some (.inr (.inl z)) :: none :: en_ t
    | .inl z => some (.inl z) :: en_ t
    | .inr (.inr r) => some (.inr (.inr r)) :: en_ t
def el_ (n : Nat) (as : List Av_) : List (Option Av_) := en_ as ++ List.replicate (n - (en_ as).length) none
theorem ll_none {ad : Nat → Nat} : ∀ (k i : Nat) (q : Nat × Value), ¬ q ∈ ll_ ad i (List.replicate k none) := by
  intro k
  induction k with
  | zero => intro i q h; simp [ll_] at h
  | succ k ih => intro i q h; rw [List.replicate_succ] at h; exact ih (i + 1) q h
theorem ll_en {ad : Nat → Nat} {k : Nat} : ∀ (as : List Av_) (i : Nat) (q : Nat × Value), q ∈ ll_ ad i (en_ as ++ List.replicate k none) → q ∈ lv_args i (as.map (av_ ad)) := by
  intro as
  induction as with
  | nil => intro i q h; exact absurd h (ll_none _ _ _)
  | cons v t ih =>
    intro i q h
    match v with
    | .inl z =>
      rcases List.mem_cons.mp h with h | h
      · exact List.mem_cons.mpr (Or.inl h)
      · exact List.mem_cons.mpr (Or.inr (ih _ _ h))
    | .inr (.inl z) =>
      rcases List.mem_cons.mp h with h | h
      · exact List.mem_cons.mpr (Or.inl h)
      · exact List.mem_cons.mpr (Or.inr (ih _ _ h))
    | .inr (.inr (some r)) =>
      rcases List.mem_cons.mp h with h | h
      · exact List.mem_cons.mpr (Or.inl h)
      · exact List.mem_cons.mpr (Or.inr (ih _ _ h))
    | .inr (.inr none) =>
      rcases List.mem_cons.mp h with h | h
      · exact List.mem_cons.mpr (Or.inl h)
      · exact List.mem_cons.mpr (Or.inr (ih _ _ h))
theorem en_len {ad : Nat → Nat} : ∀ as : List Av_, (lg_sl (as.map (av_ ad))).length = (en_ as).length := by
  intro as
  induction as with
  | nil => rfl
  | cons v t ih =>
    have h1 : lg_sl ((v :: t).map (av_ ad)) = (if (av_ ad v).category = 2 then [Slot.val (av_ ad v), Slot.second] else [Slot.val (av_ ad v)]) ++ lg_sl (t.map (av_ ad)) := by simp [lg_sl]
    rw [h1, List.length_append, ih]
    match v with
    | .inl z => simp [av_, Value.category, en_]; omega
    | .inr (.inl z) => simp [av_, Value.category, en_]; omega
    | .inr (.inr (some r)) => simp [av_, Value.category, en_]; omega
    | .inr (.inr none) => simp [av_, Value.category, en_]; omega
def Pc_ (D : Dt_) (σ : Mm_) (as : List Av_) : Array Value → State → Prop := va_Pc (as.map (av_ D.2.2)) (fun U => RM_ σ ∧ va_P D.1 vwCl (wd_ D σ) U.heap ∧ va_K D.1 vwCl (ty_ D) U ∧ Ap_ D ∧ Ex_ D U U.heap)
theorem Pc_blind {D : Dt_} {σ : Mm_} {as : List Av_} : FrameBlind (Pc_ D σ as) := fun a U g mk q => by
  obtain ⟨q0, qR, qP, qK, qA, qE⟩ := q
  exact ⟨q0, qR, qP, va_K.moved (u := U) (U := U.calling g mk a) (Vm.Alike.refl U.vm) qK, qA, Ex_.moved (u := U) (U := U.calling g mk a) (Vm.Alike.refl U.vm) qE⟩
/-- what is left of a call: its answer on the stack -/
def pu_ (r : Option Av_) (st : List Av_) : List Av_ := match r with
  | none => st
  | some v => v :: st
def Mk_ (own : String) (idx : Nat) (x : MethodName) (b : ByteArray) : Prop := Cond.methodLink own idx x ∈ gw_ ∧ Cond.static x ∈ gw_ ∧ Cond.initialized "java/lang/Math" ∈ gw_ ∧ Cond.code x b 2 (some .int) ∈ gw_
def Ck_ (own : String) (idx : Nat) : Prop := Cond.methodLink own idx arraycopyName ∈ gw_ ∧ Cond.native arraycopyName ∈ gw_ ∧ Cond.static arraycopyName ∈ gw_ ∧ Cond.initialized "java/lang/System" ∈ gw_
section VCALLS
variable {l : Launch} {D : Dt_} {y y' : Mt_} {C : Cp_} {pc : Nat} {ls : List (Option Av_)} {st : List Av_} {σ : Mm_}
theorem met_of {as : List Av_} {post : Option Av_ → Mm_ → Prop} (hy : plainName y.1.cls = true) (hlen : (en_ as).length ≤ y.2.2.1) (h : V_ l D y (CM_ D y post) 0 (el_ y.2.2.1 as) [] σ) :
    Met l y.1 (ws_ y) (rm_ y) (Pc_ D σ as) (Qc_ D post) 0 0 (As_ D) := by
  refine Met.ofW (cc := y.2.1) (maxL := y.2.2.1) (ret := y.2.2.2.1) hy rfl ?_
  intro p e s m args below meth c s₁ B hml hv
  obtain ⟨rfl, hR, hP, hK, hA, hE⟩ := hv
  rw [lg_entry_eq]
  have hl := lv_entry (as.map (av_ D.2.2)) (n := y.2.2.1) (by rw [en_len]; exact hlen)
  refine h hR p e (rm_ y) s m _ below meth c 0 0 _ ⟨rfl, rfl, rfl, rfl⟩ ⟨B.exec, B.bytes, B.returns, hml, findClass_of_methodNamed B.named, fun w hw => atoms_spec (ws := ws_ y) B.pre w (List.mem_cons_of_mem _ hw), hK, B.notSynchronized, ⟨Nat.le_refl _, Nat.le_refl _, Nat.zero_le _, Nat.zero_le _⟩, hA, hE⟩ s.heap [] _ hP va_S.rf ?_
  exact ⟨hl.1, hl.2.1, fun q hq => hl.2.2 q (ll_en as 0 q hq)⟩
theorem run_go {p : Program} {e : Env} {R : Room} {s : State} {m : MethodId} {args : Array Value} {below : List Frame} {meth : Method} {c : Code} {H : Heap} {locs : List Loc} {cells slots : Nat} {Q : State → Prop} {lsA : Array Slot} {st0 : List Value} {a : Array Value} {rest : List Av_} {post : Option Av_ → Mm_ → Prop}
    (hr : va_Run p l e R s m args below meth c H locs cells slots 0 0 (F0 m pc lsA st0) (rest.map (av_ D.2.2)) (Qc_ D post a) (As_ D)) (hS : va_S (As_ D) s.heap H locs) (hC : C R s args below cells slots Q) (B : Bf_ D y p R s m args meth c cells slots) (hl : lv_has lsA y.2.2.1 (ll_ D.2.2 0 ls))
    (k : ∀ r σ', post r σ' → V_ l D y C (pc + 3) ls (pu_ r rest) σ') : W p l e R s m args below meth c H locs cells slots Q (F0 m pc lsA st0) := by
  intro T hT X
  obtain ⟨v, st₀, t, T', L, h0, X', hL, e1, e2, ⟨⟨r, σ', ho, hpost, hR', hP'⟩, hz, hkp⟩, stp⟩ := hr T hT X
  have hv : v = r.map (av_ D.2.2) := by injection ho
  subst hv
  rw [h0] at hz hkp
  have hgo := k r σ' hpost hR' p e R s m args below meth c cells slots Q hC B T'.heap (locs ++ L) lsA (by rw [e1]; exact hP')
    ⟨Nat.le_trans hS.1 (by rw [e1]; exact hz), fun q h1 h2 => by rw [e1, hkp q (Nat.lt_of_lt_of_le h1 hS.1) h2]; exact hS.2.1 q h1 h2, fun q hq => by
      rcases List.mem_append.mp hq with h | h
      · exact hS.2.2 q h
      · exact hL q h⟩ hl T' rfl X'
  obtain ⟨t2, a1, b1⟩ := hgo
  have hst : (pu_ r rest).map (av_ D.2.2) = (r.map (av_ D.2.2)).toList ++ rest.map (av_ D.2.2) := by cases r <;> rfl
  rw [hst] at a1
  exact ⟨t2, stp t2 a1, b1⟩
def ct_ (v : Av_) : Nat := match v with
  | .inr (.inl _) => 2
  | _ => 1
theorem ct_av {ad : Nat → Nat} (v : Av_) : (av_ ad v).category = ct_ v := by
  match v with
  | .inl z => rfl
  | .inr (.inl z) => rfl
  | .inr (.inr (some r)) => rfl
  | .inr (.inr none) => rfl
theorem ct_map {ad : Nat → Nat} (st : List Av_) : ((st.map (av_ ad)).map fun v => v.category) = st.map ct_ := by
  rw [List.map_map]
  exact List.map_congr_left (fun v _ => ct_av v)
/-- entry idx of class own calls y', of n arguments; the words that this takes -/
def Lk_ (own : String) (idx : Nat) (y' : Mt_) (n : Nat) : Prop := Cond.methodLink own idx y'.1 ∈ gw_ ∧ Cond.initialized y'.1.cls ∈ gw_ ∧ Cond.code y'.1 y'.2.1 y'.2.2.1 y'.2.2.2.1 ∈ gw_ ∧
  (y'.1.cls ≠ "java/lang/invoke/MethodHandle" ∧ y'.1.cls ≠ "java/lang/invoke/VarHandle" ∧ (parseMethodDescriptor y'.1.desc).map (fun d => d.parameters.length) = some n) ∧ plainName y'.1.cls = true
def Rm_ (y y' : Mt_) : Prop := y'.2.2.2.2.1 + 1 ≤ y.2.2.2.2.1 ∧ 8 + (y'.2.2.1 + 11) + y'.2.2.2.2.2 ≤ y.2.2.2.2.2
def Cv_ (y : Mt_) (idx : Nat) (y' : Mt_) (n : Nat) : Prop := Lk_ y.1.cls idx y' n ∧ (Cond.instanceMethod y'.1 ∈ gw_ ∧ Cond.selects y'.1.cls y'.1 y'.1 ∈ gw_) ∧ Rm_ y y'
def Cs_ (y : Mt_) (idx : Nat) (y' : Mt_) (n : Nat) : Prop := Lk_ y.1.cls idx y' n ∧ Cond.static y'.1 ∈ gw_ ∧ Rm_ y y'
theorem ws_in {y' : Mt_} (h : Cond.code y'.1 y'.2.1 y'.2.2.1 y'.2.2.2.1 ∈ gw_) : ∀ w ∈ ws_ y', w ∈ gw_ := fun w hw => by
  rcases List.mem_cons.mp hw with h1 | h1
  · rw [h1]; exact h
  · exact h1
/-- the receiver: an object whose class is said -/
def Rc_ (D : Dt_) (k : Nat) (cls : String) : Prop := (∃ (ci : Nat) (fs : List (Option Nat)) (T : u_T) (N : Nat), gG_[k]? = some (ob_ ci fs) ∧ vwCl[ci]? = some (cls, T, N)) ∨ (cls = "java/lang/String" ∧ ∃ i, i < 3 ∧ k = 100 + i)
theorem V_callV {idx k n : Nat} {as rest : List Av_} (hd : decode y.2.1 pc = .ok (.invokevirtual idx, 3)) (hc : Cv_ y idx y' n) (hk : Rc_ D k y'.1.cls) (hst : st = as.reverse ++ vr_ k :: rest) (hn : as.length = n) (hcat : (rest.map ct_).sum ≤ 8) (hlen : (en_ (vr_ k :: as)).length ≤ y'.2.2.1)
    (h : V_ l D y' (CM_ D y' (fun r σ' => V_ l D y C (pc + 3) ls (pu_ r rest) σ')) 0 (el_ y'.2.2.1 (vr_ k :: as)) [] σ) : V_ l D y C pc ls st σ := by
  intro hR p e R s m args below meth c cells slots Q hC B H locs lsA hP hS hl
  subst hst
  obtain ⟨⟨k1, k2, k3, k4, k5⟩, ⟨k6, k7⟩, k8, k9⟩ := hc
  have hts := B.2.2.2.2.2.1
  have hE : Ex_ D s H := Ex_.kept B.2.2.2.2.2.2.2.2.2.2 hS.2.1
  refine run_go (post := fun r σ' => V_ l D y C (pc + 3) ls (pu_ r rest) σ') (va_runV (As := as.map (av_ D.2.2)) (rest := rest.map (av_ D.2.2)) (C := y'.1.cls) (own := y.1.cls) ⟨B.1, B.2.1, B.2.2.2.1, B.2.2.2.2.1, hts⟩ (met_of k5 hlen h) (cwV n hts (good_in ?_) rfl rfl rfl ⟨rfl, k4⟩ ⟨Nat.le_trans k8 B.2.2.2.2.2.2.2.2.1.1, Nat.le_trans k9 B.2.2.2.2.2.2.2.2.1.2.1⟩) ⟨Pc_blind, ?_, fun U hU hW => ⟨rfl, hR, by rw [hU]; exact hP, va_K.moved hW.alike B.2.2.2.2.2.2.1, B.2.2.2.2.2.2.2.2.2.1, by rw [hU]; exact Ex_.moved hW.alike hE⟩⟩ rfl (by rw [List.length_map]; exact hn) hl.1 ?_ (lv_room (by rw [ct_map]; exact hcat)) hd ⟨B.2.2.2.2.2.2.2.2.1.2.2.1, B.2.2.2.2.2.2.2.2.1.2.2.2⟩) hS hC B hl (fun _ _ z => z)
  · intro w hw
    rcases List.mem_append.mp hw with h1 | h1
    · simp only [List.mem_cons, List.not_mem_nil, or_false] at h1
      rcases h1 with rfl | rfl | rfl | rfl
      · exact k1
      · exact k6
      · exact k7
      · exact k2
    · exact ws_in k3 w h1
  · rcases hk with ⟨ci, fs, T, N, q1, q2⟩ | ⟨q0, i, q1, rfl⟩
    · exact va_recv B.2.2.2.2.2.2.1 hP q2 (gG_ob q1)
    · rw [q0]
      obtain ⟨cell, r1, r2, r3, r4⟩ := (hE.1.1 i q1).1
      exact ⟨cell, r1, r2, r3⟩
  · simp
    rfl
theorem V_callS {idx n : Nat} {as rest : List Av_} (hd : decode y.2.1 pc = .ok (.invokestatic idx, 3)) (hc : Cs_ y idx y' n) (hst : st = as.reverse ++ rest) (hn : as.length = n) (hcat : (rest.map ct_).sum ≤ 8) (hlen : (en_ as).length ≤ y'.2.2.1)
    (h : V_ l D y' (CM_ D y' (fun r σ' => V_ l D y C (pc + 3) ls (pu_ r rest) σ')) 0 (el_ y'.2.2.1 as) [] σ) : V_ l D y C pc ls st σ := by
  intro hR p e R s m args below meth c cells slots Q hC B H locs lsA hP hS hl
  subst hst
  obtain ⟨⟨k1, k2, k3, k4, k5⟩, k6, k8, k9⟩ := hc
  have hts := B.2.2.2.2.2.1
  have hE : Ex_ D s H := Ex_.kept B.2.2.2.2.2.2.2.2.2.2 hS.2.1
  refine run_go (post := fun r σ' => V_ l D y C (pc + 3) ls (pu_ r rest) σ') (va_runS (As := as.map (av_ D.2.2)) (rest := rest.map (av_ D.2.2)) (own := y.1.cls) ⟨B.1, B.2.1, B.2.2.2.1, B.2.2.2.2.1, hts⟩ (met_of k5 hlen h) (va_cwS n hts (good_in ?_) rfl rfl rfl k4 ⟨Nat.le_trans k8 B.2.2.2.2.2.2.2.2.1.1, Nat.le_trans k9 B.2.2.2.2.2.2.2.2.1.2.1⟩) ⟨Pc_blind, fun U hU hW => ⟨rfl, hR, by rw [hU]; exact hP, va_K.moved hW.alike B.2.2.2.2.2.2.1, B.2.2.2.2.2.2.2.2.2.1, by rw [hU]; exact Ex_.moved hW.alike hE⟩⟩ rfl (by rw [List.length_map]; exact hn) hl.1 ?_ (lv_room (by rw [ct_map]; exact hcat)) hd ⟨B.2.2.2.2.2.2.2.2.1.2.2.1, B.2.2.2.2.2.2.2.2.1.2.2.2⟩) hS hC B hl (fun _ _ z => z)
  · intro w hw
    rcases List.mem_append.mp hw with h1 | h1
    · simp only [List.mem_cons, List.not_mem_nil, or_false] at h1
      rcases h1 with rfl | rfl | rfl
      · exact k1
      · exact k6
      · exact k2
    · exact ws_in k3 w h1
  · simp
theorem V_mmin {idx : Nat} {a b : Int} (hd : decode y.2.1 pc = .ok (.invokestatic idx, 3)) (hk : Mk_ y.1.cls idx Lib.Math.min.name Lib.Math.min.code) (hr : 1 ≤ y.2.2.2.2.1 ∧ (st.map ct_).sum + 13 ≤ y.2.2.2.2.2) (ha : Rg_ a) (hb : Rg_ b) (h : V_ l D y C (pc + 3) ls (vi_ (if b < a then b else a) :: st) σ) : V_ l D y C pc ls (vi_ b :: vi_ a :: st) σ := by
  intro hR p en R s m args below meth c cells slots Q hC B H locs lsA hP hS hl
  have hts := B.2.2.2.2.2.1
  refine va_mmin B.1 B.2.1 (B.2.2.2.1.trans hl.1.symm) B.2.2.2.2.1 (hts _ hk.1) (hts _ hk.2.1) (hts _ hk.2.2.1) (hts _ hk.2.2.2) (Nat.le_trans hr.1 B.2.2.2.2.2.2.2.2.1.1) (Nat.le_trans (by rw [ct_map]; exact hr.2) B.2.2.2.2.2.2.2.2.1.2.1) B.2.2.2.2.2.2.2.2.1.2.2.1 B.2.2.2.2.2.2.2.2.1.2.2.2 hd ?_
  have e : (if Int32.ofInt b < Int32.ofInt a then Int32.ofInt b else Int32.ofInt a) = Int32.ofInt (if b < a then b else a) := by
    by_cases c : b < a
    · rw [if_pos ((i3_lt hb ha).mpr c), if_pos c]
    · rw [if_neg (fun z => c ((i3_lt hb ha).mp z)), if_neg c]
  rw [e]
  exact h hR p en R s m args below meth c cells slots Q hC B H locs lsA hP hS hl
theorem V_mmax {idx : Nat} {a b : Int} (hd : decode y.2.1 pc = .ok (.invokestatic idx, 3)) (hk : Mk_ y.1.cls idx Lib.Math.max.name Lib.Math.max.code) (hr : 1 ≤ y.2.2.2.2.1 ∧ (st.map ct_).sum + 13 ≤ y.2.2.2.2.2) (ha : Rg_ a) (hb : Rg_ b) (h : V_ l D y C (pc + 3) ls (vi_ (if a < b then b else a) :: st) σ) : V_ l D y C pc ls (vi_ b :: vi_ a :: st) σ := by
  intro hR p en R s m args below meth c cells slots Q hC B H locs lsA hP hS hl
  have hts := B.2.2.2.2.2.1
  refine va_mmax B.1 B.2.1 (B.2.2.2.1.trans hl.1.symm) B.2.2.2.2.1 (hts _ hk.1) (hts _ hk.2.1) (hts _ hk.2.2.1) (hts _ hk.2.2.2) (Nat.le_trans hr.1 B.2.2.2.2.2.2.2.2.1.1) (Nat.le_trans (by rw [ct_map]; exact hr.2) B.2.2.2.2.2.2.2.2.1.2.1) B.2.2.2.2.2.2.2.2.1.2.2.1 B.2.2.2.2.2.2.2.2.1.2.2.2 hd ?_
  have e : (if Int32.ofInt a < Int32.ofInt b then Int32.ofInt b else Int32.ofInt a) = Int32.ofInt (if a < b then b else a) := by
    by_cases c : a < b
    · rw [if_pos ((i3_lt ha hb).mpr c), if_pos c]
    · rw [if_neg (fun z => c ((i3_lt ha hb).mp z)), if_neg c]
  rw [e]
  exact h hR p en R s m args below meth c cells slots Q hC B H locs lsA hP hS hl
theorem V_copy {idx k0 k1 n0 n1 : Nat} {sp dp n : Int} (hd : decode y.2.1 pc = .ok (.invokestatic idx, 3)) (hk : Ck_ y.1.cls idx) (hr : 1 ≤ y.2.2.2.2.1 ∧ (st.map ct_).sum + (nativeFrameWords "java/lang/System" "arraycopy" 5 + 11) ≤ y.2.2.2.2.2) (h0 : gG_[k0]? = some (ia_ n0)) (h1 : gG_[k1]? = some (ia_ n1)) (hb : 0 ≤ sp ∧ 0 ≤ dp ∧ 0 ≤ n ∧ sp + n ≤ (n0 : Int) ∧ dp + n ≤ (n1 : Int)) (hn0 : n0 < 2147483648) (hn1 : n1 < 2147483648)
    (h : V_ l D y C (pc + 3) ls st (mc_ σ k0 k1 sp.toNat dp.toNat n.toNat)) : V_ l D y C pc ls (vi_ n :: vi_ dp :: vr_ k1 :: vi_ sp :: vr_ k0 :: st) σ := by
  intro hR p e R s m args below meth c cells slots Q hC B H locs lsA hP hS hl
  have hts := B.2.2.2.2.2.1
  have r1 : Rg_ sp := ⟨by omega, by omega⟩
  have r2 : Rg_ dp := ⟨by omega, by omega⟩
  have r3 : Rg_ n := ⟨by omega, by omega⟩
  have e1 := i3_nn (i := sp) (by omega) (by omega)
  have e2 := i3_nn (i := dp) (by omega) (by omega)
  have e3 := i3_nn (i := n) (by omega) (by omega)
  refine va_copyi (ty := .int) B.1 B.2.1 (B.2.2.2.1.trans hl.1.symm) B.2.2.2.2.1 (hts _ hk.1) (hts _ hk.2.1) (hts _ hk.2.2.1) (hts _ hk.2.2.2) B.2.2.2.2.2.2.1 hP (D_wd B.2.2.2.2.2.2.2.2.2.1) hS k0 k1 0 0 (wd_get h0) (wd_get h1) rfl rfl rfl
    (fun z => by have := (i3_lt r1 i0_rg).mp z; omega) (fun z => by have := (i3_lt r2 i0_rg).mp z; omega) (fun z => by have := (i3_lt r3 i0_rg).mp z; omega) (by rw [e1, e3]; omega) (by rw [e2, e3]; omega) (fun _ _ => rfl) (Nat.le_trans hr.1 B.2.2.2.2.2.2.2.2.1.1) (Nat.le_trans (by rw [ct_map]; exact hr.2) B.2.2.2.2.2.2.2.2.1.2.1) hd ?_
  intro H1 locs1 hP1 hD1 hS1
  rw [e1, e2, e3] at hP1
  have hset : (wd_ D σ).set k1 (D.2.2 k1, .inl ((if (0 : Nat) = 0 then D.2.1.1 else D.2.1.2.1), n1, .inl (va_cpy (fun j => Int32.ofInt (σ k0 j)) (fun j => Int32.ofInt (σ k1 j)) sp.toNat dp.toNat n.toNat))) = wd_ D (mc_ σ k0 k1 sp.toNat dp.toNat n.toNat) := by
    rw [mc_row]
    refine wd_upd h1 _ ?_
    show _ = Sum.inl ((if (0 : Nat) = 0 then D.2.1.1 else D.2.1.2.1), n1, Sum.inl _)
    refine congrArg (fun z => (Sum.inl ((if (0 : Nat) = 0 then D.2.1.1 else D.2.1.2.1), n1, Sum.inl z) : va_E)) ?_
    funext b
    unfold va_cpy
    by_cases c : dp.toNat ≤ b ∧ b < dp.toNat + n.toNat
    · simp only [if_pos c]
    · simp only [if_neg c]
  have hP1 := hset ▸ hP1
  exact h hR.mc p e R s m args below meth c cells slots Q hC B H1 locs1 lsA hP1 hS1 hl
end VCALLS
end
section
/-! ## methods, cells, links: read off the tables by wip/gen/mk07.py -/
abbrev mX0_init : Mt_ := (yX0_init, (cX0_init, (4, (none, (0, 0)))))
abbrev mX0_weigh : Mt_ := (yX0_weigh, (cX0_weigh, (2, (none, (4, 124)))))
abbrev mX0_shipToPress : Mt_ := (yX0_shipToPress, (cX0_shipToPress, (5, (some .int, (4, 126)))))
abbrev mX0_fitsAllSeen : Mt_ := (yX0_fitsAllSeen, (cX0_fitsAllSeen, (3, (some .boolean, (3, 102)))))
abbrev mX0_greatestGroup : Mt_ := (yX0_greatestGroup, (cX0_greatestGroup, (5, (some .int, (3, 102)))))
abbrev mX1_init : Mt_ := (yX1_init, (cX1_init, (1, (none, (0, 0)))))
abbrev mX1_hasShip : Mt_ := (yX1_hasShip, (cX1_hasShip, (2, (some .boolean, (0, 0)))))
abbrev mX1_hasName : Mt_ := (yX1_hasName, (cX1_hasName, (2, (some .boolean, (0, 0)))))
abbrev mX1_hasLine : Mt_ := (yX1_hasLine, (cX1_hasLine, (2, (some .boolean, (0, 0)))))
abbrev mX1_isDrowned : Mt_ := (yX1_isDrowned, (cX1_isDrowned, (2, (some .boolean, (0, 0)))))
abbrev mX1_settleShips : Mt_ := (yX1_settleShips, (cX1_settleShips, (4, (none, (8, 170)))))
abbrev mX1_settleNames : Mt_ := (yX1_settleNames, (cX1_settleNames, (5, (none, (8, 170)))))
abbrev mX1_settleLines : Mt_ := (yX1_settleLines, (cX1_settleLines, (4, (none, (8, 170)))))
abbrev mX1_strikeOut : Mt_ := (yX1_strikeOut, (cX1_strikeOut, (3, (none, (3, 69)))))
abbrev mX1_bearerOf : Mt_ := (yX1_bearerOf, (cX1_bearerOf, (6, (some .int, (1, 21)))))
abbrev mX1_isVoid : Mt_ := (yX1_isVoid, (cX1_isVoid, (4, (some .boolean, (1, 21)))))
abbrev mX1_dueOfLine : Mt_ := (yX1_dueOfLine, (cX1_dueOfLine, (6, (some .int, (2, 44)))))
abbrev mX1_namesBorneBy : Mt_ := (yX1_namesBorneBy, (cX1_namesBorneBy, (4, (some .int, (0, 0)))))
abbrev mX1_dueOf : Mt_ := (yX1_dueOf, (cX1_dueOf, (5, (some .int, (0, 0)))))
abbrev mX1_dueOfAllShips : Mt_ := (yX1_dueOfAllShips, (cX1_dueOfAllShips, (4, (some .int, (1, 24)))))
abbrev mX1_hasTogether : Mt_ := (yX1_hasTogether, (cX1_hasTogether, (4, (some .int, (0, 0)))))
abbrev mX1_chancesOf : Mt_ := (yX1_chancesOf, (cX1_chancesOf, (5, (some .int, (0, 0)))))
abbrev mX2_init : Mt_ := (yX2_init, (cX2_init, (2, (none, (0, 0)))))
abbrev mX2_isFull : Mt_ := (yX2_isFull, (cX2_isFull, (1, (some .boolean, (0, 0)))))
abbrev mX2_append : Mt_ := (yX2_append, (cX2_append, (3, (some .int, (1, 20)))))
abbrev mX3_init : Mt_ := (yX3_init, (cX3_init, (2, (none, (0, 0)))))
abbrev mX3_followTold : Mt_ := (yX3_followTold, (cX3_followTold, (5, (none, (2, 80)))))
abbrev mX3_followLots : Mt_ := (yX3_followLots, (cX3_followLots, (6, (none, (2, 80)))))
abbrev mX3_loseTogether : Mt_ := (yX3_loseTogether, (cX3_loseTogether, (3, (none, (2, 80)))))
abbrev mX3_loseAlone : Mt_ := (yX3_loseAlone, (cX3_loseAlone, (3, (some .int, (2, 80)))))
abbrev mX3_begin : Mt_ := (yX3_begin, (cX3_begin, (1, (none, (1, 60)))))
abbrev mX3_isLost : Mt_ := (yX3_isLost, (cX3_isLost, (2, (some .boolean, (0, 0)))))
abbrev mX3_sink : Mt_ := (yX3_sink, (cX3_sink, (8, (none, (1, 22)))))
abbrev mX3_breakName : Mt_ := (yX3_breakName, (cX3_breakName, (3, (none, (0, 0)))))
abbrev mX4_init : Mt_ := (yX4_init, (cX4_init, (1, (none, (0, 0)))))
abbrev mX4_renew : Mt_ := (yX4_renew, (cX4_renew, (3, (none, (1, 23)))))
abbrev mX4_findingAt : Mt_ := (yX4_findingAt, (cX4_findingAt, (3, (some .int, (0, 0)))))
abbrev mX4_hasRange : Mt_ := (yX4_hasRange, (cX4_hasRange, (3, (some .boolean, (0, 0)))))
abbrev mX4_put : Mt_ := (yX4_put, (cX4_put, (3, (none, (1, 21)))))
abbrev mX4_narrowed : Mt_ := (yX4_narrowed, (cX4_narrowed, (2, (some .int, (0, 0)))))
abbrev mX5_init : Mt_ := (yX5_init, (cX5_init, (3, (none, (2, 40)))))
abbrev mX5_isFull : Mt_ := (yX5_isFull, (cX5_isFull, (1, (some .boolean, (0, 0)))))
abbrev mX5_append : Mt_ := (yX5_append, (cX5_append, (2, (none, (1, 20)))))
abbrev mX5_byteAt : Mt_ := (yX5_byteAt, (cX5_byteAt, (2, (some .int, (0, 0)))))
abbrev mX5_figureAt : Mt_ := (yX5_figureAt, (cX5_figureAt, (2, (some .int, (1, 21)))))
abbrev mX5_figuresAt : Mt_ := (yX5_figuresAt, (cX5_figuresAt, (2, (some .int, (2, 42)))))
abbrev mX5_faultPlace : Mt_ := (yX5_faultPlace, (cX5_faultPlace, (2, (some .int, (6, 129)))))
abbrev mX5_items : Mt_ := (yX5_items, (cX5_items, (1, (some .int, (7, 150)))))
abbrev mX5_goesOnAt : Mt_ := (yX5_goesOnAt, (cX5_goesOnAt, (4, (some .boolean, (5, 106)))))
abbrev mX5_isBetween : Mt_ := (yX5_isBetween, (cX5_isBetween, (3, (some .boolean, (0, 0)))))
abbrev mX6_init : Mt_ := (yX6_init, (cX6_init, (5, (none, (3, 62)))))
abbrev mX6_type : Mt_ := (yX6_type, (cX6_type, (4, (some .int, (10, 214)))))
abbrev mX6_wipe : Mt_ := (yX6_wipe, (cX6_wipe, (4, (some .int, (10, 214)))))
abbrev mX6_undo : Mt_ := (yX6_undo, (cX6_undo, (3, (some .int, (10, 214)))))
abbrev mX6_fault : Mt_ := (yX6_fault, (cX6_fault, (3, (some .int, (7, 150)))))
abbrev mX6_ship : Mt_ := (yX6_ship, (cX6_ship, (3, (some .int, (1, 21)))))
abbrev mX6_name : Mt_ := (yX6_name, (cX6_name, (3, (some .int, (1, 21)))))
abbrev mX6_line : Mt_ := (yX6_line, (cX6_line, (3, (some .int, (1, 21)))))
abbrev mX6_struck : Mt_ := (yX6_struck, (cX6_struck, (3, (some .int, (10, 214)))))
abbrev mX6_loss : Mt_ := (yX6_loss, (cX6_loss, (3, (some .int, (3, 62)))))
abbrev mX6_back : Mt_ := (yX6_back, (cX6_back, (1, (some .int, (0, 0)))))
abbrev mX6_read : Mt_ := (yX6_read, (cX6_read, (5, (some .int, (3, 62)))))
abbrev mX6_bearer : Mt_ := (yX6_bearer, (cX6_bearer, (3, (some .int, (1, 23)))))
abbrev mX6_borne : Mt_ := (yX6_borne, (cX6_borne, (3, (some .int, (1, 24)))))
abbrev mX6_unborne : Mt_ := (yX6_unborne, (cX6_unborne, (2, (some .int, (1, 24)))))
abbrev mX6_left : Mt_ := (yX6_left, (cX6_left, (3, (some .int, (3, 104)))))
abbrev mX6_behind : Mt_ := (yX6_behind, (cX6_behind, (3, (some .int, (3, 104)))))
abbrev mX6_paid : Mt_ := (yX6_paid, (cX6_paid, (3, (some .int, (3, 104)))))
abbrev mX6_first : Mt_ := (yX6_first, (cX6_first, (2, (some .int, (3, 104)))))
abbrev mX6_safe : Mt_ := (yX6_safe, (cX6_safe, (3, (some .int, (3, 102)))))
abbrev mX6_take : Mt_ := (yX6_take, (cX6_take, (7, (some .int, (1, 23)))))
abbrev mX6_strike : Mt_ := (yX6_strike, (cX6_strike, (5, (some .int, (4, 91)))))
abbrev mX6_seen : Mt_ := (yX6_seen, (cX6_seen, (3, (some .int, (2, 42)))))
abbrev mX6_forget : Mt_ := (yX6_forget, (cX6_forget, (2, (some .int, (0, 0)))))
abbrev mX6_sound : Mt_ := (yX6_sound, (cX6_sound, (2, (some .int, (5, 145)))))
abbrev mX6_press : Mt_ := (yX6_press, (cX6_press, (1, (some .int, (5, 150)))))
abbrev mX6_fair : Mt_ := (yX6_fair, (cX6_fair, (5, (some .long, (1, 24)))))
abbrev mX6_storm : Mt_ := (yX6_storm, (cX6_storm, (8, (some .long, (3, 102)))))
abbrev mX6_years : Mt_ := (yX6_years, (cX6_years, (5, (some .int, (3, 105)))))
abbrev mX6_sheet : Mt_ := (yX6_sheet, (cX6_sheet, (5, (some .int, (2, 45)))))
abbrev mX6_lose : Mt_ := (yX6_lose, (cX6_lose, (3, (some .int, (2, 42)))))
abbrev mX6_lay : Mt_ := (yX6_lay, (cX6_lay, (7, (some .int, (2, 43)))))
abbrev mX6_get : Mt_ := (yX6_get, (cX6_get, (6, (some .int, (2, 42)))))
abbrev mX6_copy : Mt_ := (yX6_copy, (cX6_copy, (8, (some .int, (2, 60)))))
abbrev mX6_write : Mt_ := (yX6_write, (cX6_write, (6, (some .int, (3, 104)))))
abbrev mX6_count : Mt_ := (yX6_count, (cX6_count, (2, (some .int, (0, 0)))))
abbrev mX6_digest : Mt_ := (yX6_digest, (cX6_digest, (5, (some .long, (8, 172)))))
abbrev mX6_withShip : Mt_ := (yX6_withShip, (cX6_withShip, (6, (some .long, (4, 126)))))
abbrev mX6_withName : Mt_ := (yX6_withName, (cX6_withName, (7, (some .long, (5, 129)))))
abbrev mX6_withYear : Mt_ := (yX6_withYear, (cX6_withYear, (6, (some .long, (4, 126)))))
abbrev mX6_textAt : Mt_ := (yX6_textAt, (cX6_textAt, (2, (some (.object "DrownedNames$Text"), (0, 0)))))
abbrev mX6_sheetAt : Mt_ := (yX6_sheetAt, (cX6_sheetAt, (2, (some (.object "DrownedNames$Sheet"), (1, 21)))))
abbrev mX6_settle : Mt_ := (yX6_settle, (cX6_settle, (1, (none, (9, 194)))))
abbrev mX6_found : Mt_ := (yX6_found, (cX6_found, (2, (some .int, (0, 0)))))
abbrev mX6_isWithin : Mt_ := (yX6_isWithin, (cX6_isWithin, (2, (some .boolean, (0, 0)))))
abbrev mX6_isYear : Mt_ := (yX6_isYear, (cX6_isYear, (1, (some .boolean, (1, 21)))))
abbrev mX6_isForm : Mt_ := (yX6_isForm, (cX6_isForm, (1, (some .boolean, (1, 21)))))
abbrev mX6_isLoss : Mt_ := (yX6_isLoss, (cX6_isLoss, (2, (some .boolean, (2, 41)))))
abbrev mX6_partOfFraction : Mt_ := (yX6_partOfFraction, (cX6_partOfFraction, (5, (some .long, (0, 0)))))
abbrev mX7_init : Mt_ := (yX7_init, (cX7_init, (2, (none, (0, 0)))))
abbrev mX7_in : Mt_ := (yX7_in, (cX7_in, (6, (some .boolean, (0, 0)))))
abbrev mX7_no : Mt_ := (yX7_no, (cX7_no, (1, (some .long, (0, 0)))))
abbrev mX7_isTwo : Mt_ := (yX7_isTwo, (cX7_isTwo, (1, (some .boolean, (1, 25)))))
abbrev mX7_isIn : Mt_ := (yX7_isIn, (cX7_isIn, (2, (some .boolean, (0, 0)))))
abbrev mX7_ones : Mt_ := (yX7_ones, (cX7_ones, (3, (some .int, (0, 0)))))
abbrev mX7_lesser : Mt_ := (yX7_lesser, (cX7_lesser, (2, (some .int, (0, 0)))))
abbrev mX7_part : Mt_ := (yX7_part, (cX7_part, (11, (some .long, (0, 0)))))
abbrev mX7_finds : Mt_ := (yX7_finds, (cX7_finds, (2, (some .int, (0, 0)))))
abbrev mX7_isSheet : Mt_ := (yX7_isSheet, (cX7_isSheet, (1, (some .boolean, (1, 25)))))
abbrev mX7_sheet : Mt_ := (yX7_sheet, (cX7_sheet, (5, (some .int, (2, 45)))))
abbrev mX7_lose : Mt_ := (yX7_lose, (cX7_lose, (2, (some .int, (2, 45)))))
abbrev mX7_lacks : Mt_ := (yX7_lacks, (cX7_lacks, (4, (some .int, (1, 25)))))
abbrev mX7_cut : Mt_ := (yX7_cut, (cX7_cut, (2, (some .int, (0, 0)))))
abbrev mX7_lay : Mt_ := (yX7_lay, (cX7_lay, (6, (some .int, (2, 48)))))
abbrev mX7_get : Mt_ := (yX7_get, (cX7_get, (4, (some .int, (2, 48)))))
abbrev mX7_copy : Mt_ := (yX7_copy, (cX7_copy, (7, (some .int, (2, 45)))))
abbrev mX7_isText : Mt_ := (yX7_isText, (cX7_isText, (1, (some .boolean, (1, 25)))))
abbrev mX7_type : Mt_ := (yX7_type, (cX7_type, (3, (some .int, (2, 45)))))
abbrev mX7_wipe : Mt_ := (yX7_wipe, (cX7_wipe, (3, (some .int, (2, 45)))))
abbrev mX7_undo : Mt_ := (yX7_undo, (cX7_undo, (2, (some .int, (2, 45)))))
abbrev mX7_passes : Mt_ := (yX7_passes, (cX7_passes, (5, (some .int, (1, 25)))))
abbrev mX7_twoFigures : Mt_ := (yX7_twoFigures, (cX7_twoFigures, (4, (some .int, (3, 72)))))
abbrev mX7_units : Mt_ := (yX7_units, (cX7_units, (4, (some .int, (2, 49)))))
abbrev mX7_readsShip : Mt_ := (yX7_readsShip, (cX7_readsShip, (4, (some .boolean, (4, 95)))))
abbrev mX7_readsName : Mt_ := (yX7_readsName, (cX7_readsName, (7, (some .boolean, (4, 95)))))
abbrev mX7_readsLine : Mt_ := (yX7_readsLine, (cX7_readsLine, (5, (some .boolean, (4, 95)))))
abbrev mX7_readsThing : Mt_ := (yX7_readsThing, (cX7_readsThing, (3, (some .boolean, (5, 121)))))
abbrev mX7_readsText : Mt_ := (yX7_readsText, (cX7_readsText, (4, (some .int, (6, 143)))))
abbrev mX7_reads : Mt_ := (yX7_reads, (cX7_reads, (2, (none, (7, 166)))))
abbrev mX7_fault : Mt_ := (yX7_fault, (cX7_fault, (2, (some .int, (7, 166)))))
abbrev mX7_isShip : Mt_ := (yX7_isShip, (cX7_isShip, (2, (some .boolean, (1, 25)))))
abbrev mX7_isName : Mt_ := (yX7_isName, (cX7_isName, (2, (some .boolean, (1, 25)))))
abbrev mX7_isYear : Mt_ := (yX7_isYear, (cX7_isYear, (1, (some .boolean, (1, 25)))))
abbrev mX7_ship : Mt_ := (yX7_ship, (cX7_ship, (3, (some .int, (8, 187)))))
abbrev mX7_name : Mt_ := (yX7_name, (cX7_name, (3, (some .int, (8, 187)))))
abbrev mX7_struck : Mt_ := (yX7_struck, (cX7_struck, (3, (some .int, (1, 25)))))
abbrev mX7_bearerOf : Mt_ := (yX7_bearerOf, (cX7_bearerOf, (5, (some .int, (2, 46)))))
abbrev mX7_stands : Mt_ := (yX7_stands, (cX7_stands, (2, (some .boolean, (2, 46)))))
abbrev mX7_dueOf : Mt_ := (yX7_dueOf, (cX7_dueOf, (4, (some .int, (3, 67)))))
abbrev mX7_lineOf : Mt_ := (yX7_lineOf, (cX7_lineOf, (3, (some .int, (4, 90)))))
abbrev mX7_line : Mt_ := (yX7_line, (cX7_line, (3, (some .int, (8, 187)))))
abbrev mX7_bearersOf : Mt_ := (yX7_bearersOf, (cX7_bearersOf, (4, (some .int, (3, 70)))))
abbrev mX7_bearerBy : Mt_ := (yX7_bearerBy, (cX7_bearerBy, (3, (some .int, (4, 93)))))
abbrev mX7_bearer : Mt_ := (yX7_bearer, (cX7_bearer, (3, (some .int, (8, 187)))))
abbrev mX7_borneOf : Mt_ := (yX7_borneOf, (cX7_borneOf, (5, (some .int, (4, 90)))))
abbrev mX7_borne : Mt_ := (yX7_borne, (cX7_borne, (3, (some .int, (8, 187)))))
abbrev mX7_unborne : Mt_ := (yX7_unborne, (cX7_unborne, (2, (some .int, (8, 187)))))
abbrev mX7_loss : Mt_ := (yX7_loss, (cX7_loss, (3, (some .int, (2, 45)))))
abbrev mX7_back : Mt_ := (yX7_back, (cX7_back, (1, (some .int, (0, 0)))))
abbrev mX7_read : Mt_ := (yX7_read, (cX7_read, (4, (some .int, (3, 67)))))
abbrev mX7_begins : Mt_ := (yX7_begins, (cX7_begins, (2, (none, (0, 0)))))
abbrev mX7_goes : Mt_ := (yX7_goes, (cX7_goes, (8, (none, (4, 90)))))
abbrev mX7_lives : Mt_ := (yX7_lives, (cX7_lives, (4, (none, (5, 117)))))
abbrev mX7_leftOf : Mt_ := (yX7_leftOf, (cX7_leftOf, (3, (some .int, (6, 140)))))
abbrev mX7_left : Mt_ := (yX7_left, (cX7_left, (3, (some .int, (8, 187)))))
abbrev mX7_behindOf : Mt_ := (yX7_behindOf, (cX7_behindOf, (3, (some .int, (6, 140)))))
abbrev mX7_behind : Mt_ := (yX7_behind, (cX7_behind, (3, (some .int, (8, 187)))))
abbrev mX7_paidOf : Mt_ := (yX7_paidOf, (cX7_paidOf, (3, (some .int, (6, 140)))))
abbrev mX7_paid : Mt_ := (yX7_paid, (cX7_paid, (3, (some .int, (8, 187)))))
abbrev mX7_firstOf : Mt_ := (yX7_firstOf, (cX7_firstOf, (2, (some .int, (6, 140)))))
abbrev mX7_first : Mt_ := (yX7_first, (cX7_first, (2, (some .int, (8, 187)))))
abbrev mX7_alone : Mt_ := (yX7_alone, (cX7_alone, (2, (none, (5, 117)))))
abbrev mX7_safeNow : Mt_ := (yX7_safeNow, (cX7_safeNow, (3, (some .int, (6, 138)))))
abbrev mX7_safe : Mt_ := (yX7_safe, (cX7_safe, (1, (some .int, (8, 187)))))
abbrev mX7_haveAll : Mt_ := (yX7_haveAll, (cX7_haveAll, (4, (some .int, (1, 21)))))
abbrev mX7_takeOf : Mt_ := (yX7_takeOf, (cX7_takeOf, (6, (some .int, (2, 44)))))
abbrev mX7_take : Mt_ := (yX7_take, (cX7_take, (2, (some .int, (8, 187)))))
abbrev mX7_borneAll : Mt_ := (yX7_borneAll, (cX7_borneAll, (4, (some .int, (5, 114)))))
abbrev mX7_strikeOf : Mt_ := (yX7_strikeOf, (cX7_strikeOf, (6, (some .int, (6, 137)))))
abbrev mX7_strike : Mt_ := (yX7_strike, (cX7_strike, (3, (some .int, (8, 187)))))
abbrev mX7_seen : Mt_ := (yX7_seen, (cX7_seen, (3, (some .int, (1, 25)))))
abbrev mX7_forget : Mt_ := (yX7_forget, (cX7_forget, (2, (some .int, (0, 0)))))
abbrev mX7_isSeen : Mt_ := (yX7_isSeen, (cX7_isSeen, (4, (some .boolean, (6, 138)))))
abbrev mX7_soundOf : Mt_ := (yX7_soundOf, (cX7_soundOf, (5, (some .int, (7, 161)))))
abbrev mX7_sound : Mt_ := (yX7_sound, (cX7_sound, (2, (some .int, (8, 187)))))
abbrev mX7_mostAlike : Mt_ := (yX7_mostAlike, (cX7_mostAlike, (7, (some .int, (7, 161)))))
abbrev mX7_pressNow : Mt_ := (yX7_pressNow, (cX7_pressNow, (6, (some .int, (8, 187)))))
abbrev mX7_press : Mt_ := (yX7_press, (cX7_press, (1, (some .int, (9, 212)))))
abbrev mX7_fairOf : Mt_ := (yX7_fairOf, (cX7_fairOf, (6, (some .long, (5, 114)))))
abbrev mX7_fair : Mt_ := (yX7_fair, (cX7_fair, (3, (some .long, (8, 187)))))
abbrev mX7_stormOf : Mt_ := (yX7_stormOf, (cX7_stormOf, (12, (some .long, (5, 117)))))
abbrev mX7_storm : Mt_ := (yX7_storm, (cX7_storm, (4, (some .long, (8, 187)))))
abbrev mX7_lot : Mt_ := (yX7_lot, (cX7_lot, (2, (some .int, (0, 0)))))
abbrev mX7_yearsOf : Mt_ := (yX7_yearsOf, (cX7_yearsOf, (7, (some .int, (5, 117)))))
abbrev mX7_years : Mt_ := (yX7_years, (cX7_years, (5, (some .int, (8, 187)))))
abbrev mX7_write : Mt_ := (yX7_write, (cX7_write, (5, (some .int, (8, 187)))))
abbrev mX7_count : Mt_ := (yX7_count, (cX7_count, (2, (some .int, (8, 187)))))
abbrev mX7_tellsShip : Mt_ := (yX7_tellsShip, (cX7_tellsShip, (6, (some .long, (9, 209)))))
abbrev mX7_tellsName : Mt_ := (yX7_tellsName, (cX7_tellsName, (7, (some .long, (9, 209)))))
abbrev mX7_digest : Mt_ := (yX7_digest, (cX7_digest, (5, (some .long, (10, 235)))))
abbrev mJ6_bitCount_0f7a4 : Mt_ := (yJ6_bitCount_0f7a4, (cJ6_bitCount_0f7a4, (1, (some .int, (0, 0)))))
abbrev mJ9_max_7cf53 : Mt_ := (yJ9_max_7cf53, (cJ9_max_7cf53, (2, (some .int, (0, 0)))))
abbrev mJ9_min_7cf53 : Mt_ := (yJ9_min_7cf53, (cJ9_min_7cf53, (2, (some .int, (0, 0)))))
abbrev mJ0_length_8abf5 : Mt_ := (yJ0_length_8abf5, (cJ0_length_8abf5, (1, (some .int, (1, 20)))))
abbrev mJ0_charAt_5068e : Mt_ := (yJ0_charAt_5068e, (cJ0_charAt_5068e, (2, (some .char, (4, 85)))))
abbrev mJ0_coder_7d493 : Mt_ := (yJ0_coder_7d493, (cJ0_coder_7d493, (1, (some .byte, (0, 0)))))
abbrev mJ0_isLatin1_aae02 : Mt_ := (yJ0_isLatin1_aae02, (cJ0_isLatin1_aae02, (1, (some .boolean, (0, 0)))))
abbrev mJ0_checkIndex_df160 : Mt_ := (yJ0_checkIndex_df160, (cJ0_checkIndex_df160, (2, (none, (1, 22)))))
abbrev mJ1_charAt_3b067 : Mt_ := (yJ1_charAt_3b067, (cJ1_charAt_3b067, (2, (some .char, (2, 43)))))
abbrev mJ2_getChar_3b067 : Mt_ := (yJ2_getChar_3b067, (cJ2_getChar_3b067, (2, (some .char, (1, 20)))))
abbrev mJ2_length_9d52b : Mt_ := (yJ2_length_9d52b, (cJ2_length_9d52b, (1, (some .int, (0, 0)))))
abbrev mJ2_charAt_3b067 : Mt_ := (yJ2_charAt_3b067, (cJ2_charAt_3b067, (2, (some .char, (3, 64)))))
abbrev mJ2_checkIndex_2214a : Mt_ := (yJ2_checkIndex_2214a, (cJ2_checkIndex_2214a, (2, (none, (2, 43)))))
abbrev mJ7_fill_53178 : Mt_ := (yJ7_fill_53178, (cJ7_fill_53178, (4, (none, (0, 0)))))
abbrev mJ3_checkIndex_8e157 : Mt_ := (yJ3_checkIndex_8e157, (cJ3_checkIndex_8e157, (3, (some .int, (0, 0)))))
theorem gg_0 : gG_[0]? = some (ob_ 6 [some 1, some 3, some 5, some 7, some 10, some 19, some 29, some 32, some 35, none, none]) := rfl
theorem gg_1 : gG_[1]? = some (ob_ 5 [some 100, none, some 2, none]) := rfl
theorem gg_2 : gG_[2]? = some (ia_ 23) := rfl
theorem gg_3 : gG_[3]? = some (ob_ 5 [some 101, none, some 4, none]) := rfl
theorem gg_4 : gG_[4]? = some (ia_ 39) := rfl
theorem gg_5 : gG_[5]? = some (ob_ 5 [some 102, none, some 6, none]) := rfl
theorem gg_6 : gG_[6]? = some (ia_ 59) := rfl
theorem gg_7 : gG_[7]? = some (ob_ 2 [some 8, some 9, none]) := rfl
theorem gg_8 : gG_[8]? = some (ia_ 12) := rfl
theorem gg_9 : gG_[9]? = some (ia_ 12) := rfl
theorem gg_10 : gG_[10]? = some (ra_ [11, 13, 15, 17]) := rfl
theorem gg_11 : gG_[11]? = some (ob_ 4 [some 12, none, none, none]) := rfl
theorem gg_12 : gG_[12]? = some (ia_ 60) := rfl
theorem gg_13 : gG_[13]? = some (ob_ 4 [some 14, none, none, none]) := rfl
theorem gg_14 : gG_[14]? = some (ia_ 60) := rfl
theorem gg_15 : gG_[15]? = some (ob_ 4 [some 16, none, none, none]) := rfl
theorem gg_16 : gG_[16]? = some (ia_ 60) := rfl
theorem gg_17 : gG_[17]? = some (ob_ 4 [some 18, none, none, none]) := rfl
theorem gg_18 : gG_[18]? = some (ia_ 60) := rfl
theorem gg_19 : gG_[19]? = some (ob_ 1 [none, some 20, some 21, none, some 22, some 23, none, none, some 24, some 25, some 26, some 27, some 28]) := rfl
theorem gg_20 : gG_[20]? = some (ia_ 6) := rfl
theorem gg_21 : gG_[21]? = some (ia_ 6) := rfl
theorem gg_22 : gG_[22]? = some (ia_ 8) := rfl
theorem gg_23 : gG_[23]? = some (ia_ 8) := rfl
theorem gg_24 : gG_[24]? = some (ia_ 12) := rfl
theorem gg_25 : gG_[25]? = some (ia_ 12) := rfl
theorem gg_26 : gG_[26]? = some (ia_ 12) := rfl
theorem gg_27 : gG_[27]? = some (ia_ 8) := rfl
theorem gg_28 : gG_[28]? = some (ia_ 12) := rfl
theorem gg_29 : gG_[29]? = some (ob_ 3 [some 19, some 30, some 31, none, none, none, none]) := rfl
theorem gg_30 : gG_[30]? = some (ia_ 8) := rfl
theorem gg_31 : gG_[31]? = some (ia_ 6) := rfl
theorem gg_32 : gG_[32]? = some (ob_ 2 [some 33, some 34, none]) := rfl
theorem gg_33 : gG_[33]? = some (ia_ 8) := rfl
theorem gg_34 : gG_[34]? = some (ia_ 8) := rfl
theorem gg_35 : gG_[35]? = some (ob_ 0 [some 19, some 29, some 32, some 36, some 37, none, none]) := rfl
theorem gg_36 : gG_[36]? = some (za_ 256) := rfl
theorem gg_37 : gG_[37]? = some (ia_ 100) := rfl
theorem gg_38 : gG_[38]? = some (ob_ 7 [some 39, some 40, some 41, some 42, none, some 43, some 44, none, some 45, some 46, some 47, some 48, none, none, some 49, some 50, none, none, some 51, none, none, none, none, some 52, some 53, none]) := rfl
theorem gg_39 : gG_[39]? = some (ia_ 4) := rfl
theorem gg_40 : gG_[40]? = some (ia_ 4) := rfl
theorem gg_41 : gG_[41]? = some (ia_ 240) := rfl
theorem gg_42 : gG_[42]? = some (ia_ 60) := rfl
theorem gg_43 : gG_[43]? = some (ia_ 180) := rfl
theorem gg_44 : gG_[44]? = some (ia_ 3) := rfl
theorem gg_45 : gG_[45]? = some (ia_ 3) := rfl
theorem gg_46 : gG_[46]? = some (ia_ 12) := rfl
theorem gg_47 : gG_[47]? = some (ia_ 24) := rfl
theorem gg_48 : gG_[48]? = some (ia_ 36) := rfl
theorem gg_49 : gG_[49]? = some (ia_ 24) := rfl
theorem gg_50 : gG_[50]? = some (ia_ 8) := rfl
theorem gg_51 : gG_[51]? = some (ia_ 6) := rfl
theorem gg_52 : gG_[52]? = some (ia_ 16) := rfl
theorem gg_53 : gG_[53]? = some (ia_ 256) := rfl
theorem rc_0 {D : Dt_} : Rc_ D 0 RX6 := Or.inl ⟨6, _, TX6, 11, gg_0, rfl⟩
theorem rc_1 {D : Dt_} : Rc_ D 1 RX5 := Or.inl ⟨5, _, TX5, 4, gg_1, rfl⟩
theorem rc_3 {D : Dt_} : Rc_ D 3 RX5 := Or.inl ⟨5, _, TX5, 4, gg_3, rfl⟩
theorem rc_5 {D : Dt_} : Rc_ D 5 RX5 := Or.inl ⟨5, _, TX5, 4, gg_5, rfl⟩
theorem rc_7 {D : Dt_} : Rc_ D 7 RX2 := Or.inl ⟨2, _, TX2, 3, gg_7, rfl⟩
theorem rc_11 {D : Dt_} : Rc_ D 11 RX4 := Or.inl ⟨4, _, TX4, 4, gg_11, rfl⟩
theorem rc_13 {D : Dt_} : Rc_ D 13 RX4 := Or.inl ⟨4, _, TX4, 4, gg_13, rfl⟩
theorem rc_15 {D : Dt_} : Rc_ D 15 RX4 := Or.inl ⟨4, _, TX4, 4, gg_15, rfl⟩
theorem rc_17 {D : Dt_} : Rc_ D 17 RX4 := Or.inl ⟨4, _, TX4, 4, gg_17, rfl⟩
theorem rc_19 {D : Dt_} : Rc_ D 19 RX1 := Or.inl ⟨1, _, TX1, 13, gg_19, rfl⟩
theorem rc_29 {D : Dt_} : Rc_ D 29 RX3 := Or.inl ⟨3, _, TX3, 7, gg_29, rfl⟩
theorem rc_32 {D : Dt_} : Rc_ D 32 RX2 := Or.inl ⟨2, _, TX2, 3, gg_32, rfl⟩
theorem rc_35 {D : Dt_} : Rc_ D 35 RX0 := Or.inl ⟨0, _, TX0, 7, gg_35, rfl⟩
theorem rc_38 {D : Dt_} : Rc_ D 38 RX7 := Or.inl ⟨7, _, TX7, 26, gg_38, rfl⟩
theorem rc_100 {D : Dt_} : Rc_ D 100 RJ0 := Or.inr ⟨rfl, 0, by decide, rfl⟩
theorem rc_101 {D : Dt_} : Rc_ D 101 RJ0 := Or.inr ⟨rfl, 1, by decide, rfl⟩
theorem rc_102 {D : Dt_} : Rc_ D 102 RJ0 := Or.inr ⟨rfl, 2, by decide, rfl⟩
theorem tb_in {w : Cond} (i : Nat) (h : tables_1[i]? = some w) (hg : goodWord w = true) : w ∈ gw_ := List.mem_filter.mpr ⟨List.mem_append_right _ (List.mem_of_getElem? h), hg⟩
theorem sl_in {w : Cond} (i : Nat) (h : (k2_sels lw_privs)[i]? = some w) (hg : goodWord w = true) : w ∈ gw_ := List.mem_filter.mpr ⟨List.mem_append_left _ (List.mem_of_getElem? h), hg⟩
theorem gi_X0 : ∀ w ∈ wsX00, w ∈ gw_ := gw_all inX0 rfl
theorem gi_X1 : ∀ w ∈ wsX10, w ∈ gw_ := gw_all inX1 rfl
theorem gi_X2 : ∀ w ∈ wsX20, w ∈ gw_ := gw_all inX2 rfl
theorem gi_X3 : ∀ w ∈ wsX30, w ∈ gw_ := gw_all inX3 rfl
theorem gi_X4 : ∀ w ∈ wsX40, w ∈ gw_ := gw_all inX4 rfl
theorem gi_X5 : ∀ w ∈ wsX50, w ∈ gw_ := gw_all inX5 rfl
theorem gi_X6 : ∀ w ∈ wsX60, w ∈ gw_ := gw_all inX6 rfl
theorem gi_X7 : ∀ w ∈ wsX70, w ∈ gw_ := gw_all inX7 rfl
theorem fX5_9 : Fl_ RX5 9 5 0 := ⟨RX5, TX5, 4, rfl, by decide, gi_X5, (tb_in 42 (by decide +kernel) rfl)⟩
theorem fX5_21 : Fl_ RX5 21 5 1 := ⟨RX5, TX5, 4, rfl, by decide, gi_X5, (tb_in 43 (by decide +kernel) rfl)⟩
theorem fX1_64 : Fl_ RX1 64 5 1 := ⟨RX5, TX5, 4, rfl, by decide, gi_X5, (tb_in 44 (by decide +kernel) rfl)⟩
theorem fX5_25 : Fl_ RX5 25 5 2 := ⟨RX5, TX5, 4, rfl, by decide, gi_X5, (tb_in 45 (by decide +kernel) rfl)⟩
theorem fX5_29 : Fl_ RX5 29 5 3 := ⟨RX5, TX5, 4, rfl, by decide, gi_X5, (tb_in 46 (by decide +kernel) rfl)⟩
theorem fX6_92 : Fl_ RX6 92 5 3 := ⟨RX5, TX5, 4, rfl, by decide, gi_X5, (tb_in 47 (by decide +kernel) rfl)⟩
theorem fX2_7 : Fl_ RX2 7 2 0 := ⟨RX2, TX2, 3, rfl, by decide, gi_X2, (tb_in 67 (by decide +kernel) rfl)⟩
theorem fX3_31 : Fl_ RX3 31 2 0 := ⟨RX2, TX2, 3, rfl, by decide, gi_X2, (tb_in 68 (by decide +kernel) rfl)⟩
theorem fX0_59 : Fl_ RX0 59 2 0 := ⟨RX2, TX2, 3, rfl, by decide, gi_X2, (tb_in 69 (by decide +kernel) rfl)⟩
theorem fX2_13 : Fl_ RX2 13 2 1 := ⟨RX2, TX2, 3, rfl, by decide, gi_X2, (tb_in 70 (by decide +kernel) rfl)⟩
theorem fX3_34 : Fl_ RX3 34 2 1 := ⟨RX2, TX2, 3, rfl, by decide, gi_X2, (tb_in 71 (by decide +kernel) rfl)⟩
theorem fX0_68 : Fl_ RX0 68 2 1 := ⟨RX2, TX2, 3, rfl, by decide, gi_X2, (tb_in 72 (by decide +kernel) rfl)⟩
theorem fX2_16 : Fl_ RX2 16 2 2 := ⟨RX2, TX2, 3, rfl, by decide, gi_X2, (tb_in 73 (by decide +kernel) rfl)⟩
theorem fX3_25 : Fl_ RX3 25 2 2 := ⟨RX2, TX2, 3, rfl, by decide, gi_X2, (tb_in 74 (by decide +kernel) rfl)⟩
theorem fX0_54 : Fl_ RX0 54 2 2 := ⟨RX2, TX2, 3, rfl, by decide, gi_X2, (tb_in 75 (by decide +kernel) rfl)⟩
theorem fX6_148 : Fl_ RX6 148 2 2 := ⟨RX2, TX2, 3, rfl, by decide, gi_X2, (tb_in 76 (by decide +kernel) rfl)⟩
theorem fX1_39 : Fl_ RX1 39 1 0 := ⟨RX1, TX1, 13, rfl, by decide, gi_X1, (tb_in 92 (by decide +kernel) rfl)⟩
theorem fX0_47 : Fl_ RX0 47 1 0 := ⟨RX1, TX1, 13, rfl, by decide, gi_X1, (tb_in 93 (by decide +kernel) rfl)⟩
theorem fX3_41 : Fl_ RX3 41 1 0 := ⟨RX1, TX1, 13, rfl, by decide, gi_X1, (tb_in 94 (by decide +kernel) rfl)⟩
theorem fX6_200 : Fl_ RX6 200 1 0 := ⟨RX1, TX1, 13, rfl, by decide, gi_X1, (tb_in 95 (by decide +kernel) rfl)⟩
theorem fX1_9 : Fl_ RX1 9 1 1 := ⟨RX1, TX1, 13, rfl, by decide, gi_X1, (tb_in 96 (by decide +kernel) rfl)⟩
theorem fX6_104 : Fl_ RX6 104 1 1 := ⟨RX1, TX1, 13, rfl, by decide, gi_X1, (tb_in 97 (by decide +kernel) rfl)⟩
theorem fX1_15 : Fl_ RX1 15 1 2 := ⟨RX1, TX1, 13, rfl, by decide, gi_X1, (tb_in 98 (by decide +kernel) rfl)⟩
theorem fX3_51 : Fl_ RX3 51 1 2 := ⟨RX1, TX1, 13, rfl, by decide, gi_X1, (tb_in 99 (by decide +kernel) rfl)⟩
theorem fX6_108 : Fl_ RX6 108 1 2 := ⟨RX1, TX1, 13, rfl, by decide, gi_X1, (tb_in 100 (by decide +kernel) rfl)⟩
theorem fX0_38 : Fl_ RX0 38 1 3 := ⟨RX1, TX1, 13, rfl, by decide, gi_X1, (tb_in 101 (by decide +kernel) rfl)⟩
theorem fX1_43 : Fl_ RX1 43 1 3 := ⟨RX1, TX1, 13, rfl, by decide, gi_X1, (tb_in 102 (by decide +kernel) rfl)⟩
theorem fX6_206 : Fl_ RX6 206 1 3 := ⟨RX1, TX1, 13, rfl, by decide, gi_X1, (tb_in 103 (by decide +kernel) rfl)⟩
theorem fX1_18 : Fl_ RX1 18 1 4 := ⟨RX1, TX1, 13, rfl, by decide, gi_X1, (tb_in 104 (by decide +kernel) rfl)⟩
theorem fX3_57 : Fl_ RX3 57 1 4 := ⟨RX1, TX1, 13, rfl, by decide, gi_X1, (tb_in 105 (by decide +kernel) rfl)⟩
theorem fX6_114 : Fl_ RX6 114 1 4 := ⟨RX1, TX1, 13, rfl, by decide, gi_X1, (tb_in 106 (by decide +kernel) rfl)⟩
theorem fX1_21 : Fl_ RX1 21 1 5 := ⟨RX1, TX1, 13, rfl, by decide, gi_X1, (tb_in 107 (by decide +kernel) rfl)⟩
theorem fX6_120 : Fl_ RX6 120 1 5 := ⟨RX1, TX1, 13, rfl, by decide, gi_X1, (tb_in 108 (by decide +kernel) rfl)⟩
theorem fX1_49 : Fl_ RX1 49 1 6 := ⟨RX1, TX1, 13, rfl, by decide, gi_X1, (tb_in 109 (by decide +kernel) rfl)⟩
theorem fX1_46 : Fl_ RX1 46 1 7 := ⟨RX1, TX1, 13, rfl, by decide, gi_X1, (tb_in 110 (by decide +kernel) rfl)⟩
theorem fX3_84 : Fl_ RX3 84 1 7 := ⟨RX1, TX1, 13, rfl, by decide, gi_X1, (tb_in 111 (by decide +kernel) rfl)⟩
theorem fX6_281 : Fl_ RX6 281 1 7 := ⟨RX1, TX1, 13, rfl, by decide, gi_X1, (tb_in 112 (by decide +kernel) rfl)⟩
theorem fX1_24 : Fl_ RX1 24 1 8 := ⟨RX1, TX1, 13, rfl, by decide, gi_X1, (tb_in 113 (by decide +kernel) rfl)⟩
theorem fX6_126 : Fl_ RX6 126 1 8 := ⟨RX1, TX1, 13, rfl, by decide, gi_X1, (tb_in 114 (by decide +kernel) rfl)⟩
theorem fX3_90 : Fl_ RX3 90 1 8 := ⟨RX1, TX1, 13, rfl, by decide, gi_X1, (tb_in 115 (by decide +kernel) rfl)⟩
theorem fX1_27 : Fl_ RX1 27 1 9 := ⟨RX1, TX1, 13, rfl, by decide, gi_X1, (tb_in 116 (by decide +kernel) rfl)⟩
theorem fX6_129 : Fl_ RX6 129 1 9 := ⟨RX1, TX1, 13, rfl, by decide, gi_X1, (tb_in 117 (by decide +kernel) rfl)⟩
theorem fX3_96 : Fl_ RX3 96 1 9 := ⟨RX1, TX1, 13, rfl, by decide, gi_X1, (tb_in 118 (by decide +kernel) rfl)⟩
theorem fX1_30 : Fl_ RX1 30 1 10 := ⟨RX1, TX1, 13, rfl, by decide, gi_X1, (tb_in 119 (by decide +kernel) rfl)⟩
theorem fX6_132 : Fl_ RX6 132 1 10 := ⟨RX1, TX1, 13, rfl, by decide, gi_X1, (tb_in 120 (by decide +kernel) rfl)⟩
theorem fX1_33 : Fl_ RX1 33 1 11 := ⟨RX1, TX1, 13, rfl, by decide, gi_X1, (tb_in 121 (by decide +kernel) rfl)⟩
theorem fX3_93 : Fl_ RX3 93 1 11 := ⟨RX1, TX1, 13, rfl, by decide, gi_X1, (tb_in 122 (by decide +kernel) rfl)⟩
theorem fX6_167 : Fl_ RX6 167 1 11 := ⟨RX1, TX1, 13, rfl, by decide, gi_X1, (tb_in 123 (by decide +kernel) rfl)⟩
theorem fX1_36 : Fl_ RX1 36 1 12 := ⟨RX1, TX1, 13, rfl, by decide, gi_X1, (tb_in 124 (by decide +kernel) rfl)⟩
theorem fX3_87 : Fl_ RX3 87 1 12 := ⟨RX1, TX1, 13, rfl, by decide, gi_X1, (tb_in 125 (by decide +kernel) rfl)⟩
theorem fX6_135 : Fl_ RX6 135 1 12 := ⟨RX1, TX1, 13, rfl, by decide, gi_X1, (tb_in 126 (by decide +kernel) rfl)⟩
theorem fX3_18 : Fl_ RX3 18 3 0 := ⟨RX3, TX3, 7, rfl, by decide, gi_X3, (tb_in 160 (by decide +kernel) rfl)⟩
theorem fX3_9 : Fl_ RX3 9 3 1 := ⟨RX3, TX3, 7, rfl, by decide, gi_X3, (tb_in 161 (by decide +kernel) rfl)⟩
theorem fX6_183 : Fl_ RX6 183 3 1 := ⟨RX3, TX3, 7, rfl, by decide, gi_X3, (tb_in 162 (by decide +kernel) rfl)⟩
theorem fX3_15 : Fl_ RX3 15 3 2 := ⟨RX3, TX3, 7, rfl, by decide, gi_X3, (tb_in 163 (by decide +kernel) rfl)⟩
theorem fX6_191 : Fl_ RX6 191 3 2 := ⟨RX3, TX3, 7, rfl, by decide, gi_X3, (tb_in 164 (by decide +kernel) rfl)⟩
theorem fX3_72 : Fl_ RX3 72 3 3 := ⟨RX3, TX3, 7, rfl, by decide, gi_X3, (tb_in 165 (by decide +kernel) rfl)⟩
theorem fX6_189 : Fl_ RX6 189 3 3 := ⟨RX3, TX3, 7, rfl, by decide, gi_X3, (tb_in 166 (by decide +kernel) rfl)⟩
theorem fX3_75 : Fl_ RX3 75 3 4 := ⟨RX3, TX3, 7, rfl, by decide, gi_X3, (tb_in 167 (by decide +kernel) rfl)⟩
theorem fX6_186 : Fl_ RX6 186 3 4 := ⟨RX3, TX3, 7, rfl, by decide, gi_X3, (tb_in 168 (by decide +kernel) rfl)⟩
theorem fX3_78 : Fl_ RX3 78 3 5 := ⟨RX3, TX3, 7, rfl, by decide, gi_X3, (tb_in 169 (by decide +kernel) rfl)⟩
theorem fX6_194 : Fl_ RX6 194 3 5 := ⟨RX3, TX3, 7, rfl, by decide, gi_X3, (tb_in 170 (by decide +kernel) rfl)⟩
theorem fX3_81 : Fl_ RX3 81 3 6 := ⟨RX3, TX3, 7, rfl, by decide, gi_X3, (tb_in 171 (by decide +kernel) rfl)⟩
theorem fX6_197 : Fl_ RX6 197 3 6 := ⟨RX3, TX3, 7, rfl, by decide, gi_X3, (tb_in 172 (by decide +kernel) rfl)⟩
theorem fX0_19 : Fl_ RX0 19 0 0 := ⟨RX0, TX0, 7, rfl, by decide, gi_X0, (tb_in 194 (by decide +kernel) rfl)⟩
theorem fX0_23 : Fl_ RX0 23 0 1 := ⟨RX0, TX0, 7, rfl, by decide, gi_X0, (tb_in 195 (by decide +kernel) rfl)⟩
theorem fX0_27 : Fl_ RX0 27 0 2 := ⟨RX0, TX0, 7, rfl, by decide, gi_X0, (tb_in 196 (by decide +kernel) rfl)⟩
theorem fX0_9 : Fl_ RX0 9 0 3 := ⟨RX0, TX0, 7, rfl, by decide, gi_X0, (tb_in 197 (by decide +kernel) rfl)⟩
theorem fX0_15 : Fl_ RX0 15 0 4 := ⟨RX0, TX0, 7, rfl, by decide, gi_X0, (tb_in 198 (by decide +kernel) rfl)⟩
theorem fX0_31 : Fl_ RX0 31 0 5 := ⟨RX0, TX0, 7, rfl, by decide, gi_X0, (tb_in 199 (by decide +kernel) rfl)⟩
theorem fX6_226 : Fl_ RX6 226 0 5 := ⟨RX0, TX0, 7, rfl, by decide, gi_X0, (tb_in 200 (by decide +kernel) rfl)⟩
theorem fX0_35 : Fl_ RX0 35 0 6 := ⟨RX0, TX0, 7, rfl, by decide, gi_X0, (tb_in 201 (by decide +kernel) rfl)⟩
theorem fX6_229 : Fl_ RX6 229 0 6 := ⟨RX0, TX0, 7, rfl, by decide, gi_X0, (tb_in 202 (by decide +kernel) rfl)⟩
theorem fX4_9 : Fl_ RX4 9 4 0 := ⟨RX4, TX4, 4, rfl, by decide, gi_X4, (tb_in 224 (by decide +kernel) rfl)⟩
theorem fX6_164 : Fl_ RX6 164 4 0 := ⟨RX4, TX4, 4, rfl, by decide, gi_X4, (tb_in 225 (by decide +kernel) rfl)⟩
theorem fX4_15 : Fl_ RX4 15 4 1 := ⟨RX4, TX4, 4, rfl, by decide, gi_X4, (tb_in 226 (by decide +kernel) rfl)⟩
theorem fX6_155 : Fl_ RX6 155 4 1 := ⟨RX4, TX4, 4, rfl, by decide, gi_X4, (tb_in 227 (by decide +kernel) rfl)⟩
theorem fX4_25 : Fl_ RX4 25 4 2 := ⟨RX4, TX4, 4, rfl, by decide, gi_X4, (tb_in 228 (by decide +kernel) rfl)⟩
theorem fX6_264 : Fl_ RX6 264 4 2 := ⟨RX4, TX4, 4, rfl, by decide, gi_X4, (tb_in 229 (by decide +kernel) rfl)⟩
theorem fX4_29 : Fl_ RX4 29 4 3 := ⟨RX4, TX4, 4, rfl, by decide, gi_X4, (tb_in 230 (by decide +kernel) rfl)⟩
theorem fX6_163 : Fl_ RX6 163 4 3 := ⟨RX4, TX4, 4, rfl, by decide, gi_X4, (tb_in 231 (by decide +kernel) rfl)⟩
theorem fX6_16 : Fl_ RX6 16 6 0 := ⟨RX6, TX6, 11, rfl, by decide, gi_X6, (tb_in 241 (by decide +kernel) rfl)⟩
theorem fX6_22 : Fl_ RX6 22 6 1 := ⟨RX6, TX6, 11, rfl, by decide, gi_X6, (tb_in 242 (by decide +kernel) rfl)⟩
theorem fX6_27 : Fl_ RX6 27 6 2 := ⟨RX6, TX6, 11, rfl, by decide, gi_X6, (tb_in 243 (by decide +kernel) rfl)⟩
theorem fX6_35 : Fl_ RX6 35 6 3 := ⟨RX6, TX6, 11, rfl, by decide, gi_X6, (tb_in 244 (by decide +kernel) rfl)⟩
theorem fX6_41 : Fl_ RX6 41 6 4 := ⟨RX6, TX6, 11, rfl, by decide, gi_X6, (tb_in 245 (by decide +kernel) rfl)⟩
theorem fX6_53 : Fl_ RX6 53 6 5 := ⟨RX6, TX6, 11, rfl, by decide, gi_X6, (tb_in 246 (by decide +kernel) rfl)⟩
theorem fX6_57 : Fl_ RX6 57 6 6 := ⟨RX6, TX6, 11, rfl, by decide, gi_X6, (tb_in 247 (by decide +kernel) rfl)⟩
theorem fX6_61 : Fl_ RX6 61 6 7 := ⟨RX6, TX6, 11, rfl, by decide, gi_X6, (tb_in 248 (by decide +kernel) rfl)⟩
theorem fX6_69 : Fl_ RX6 69 6 8 := ⟨RX6, TX6, 11, rfl, by decide, gi_X6, (tb_in 249 (by decide +kernel) rfl)⟩
theorem fX6_138 : Fl_ RX6 138 6 9 := ⟨RX6, TX6, 11, rfl, by decide, gi_X6, (tb_in 250 (by decide +kernel) rfl)⟩
theorem fX6_284 : Fl_ RX6 284 6 10 := ⟨RX6, TX6, 11, rfl, by decide, gi_X6, (tb_in 251 (by decide +kernel) rfl)⟩
theorem fX7_7 : Fl_ RX7 7 7 0 := ⟨RX7, TX7, 26, rfl, by decide, gi_X7, (tb_in 740 (by decide +kernel) rfl)⟩
theorem fX7_13 : Fl_ RX7 13 7 1 := ⟨RX7, TX7, 26, rfl, by decide, gi_X7, (tb_in 741 (by decide +kernel) rfl)⟩
theorem fX7_16 : Fl_ RX7 16 7 2 := ⟨RX7, TX7, 26, rfl, by decide, gi_X7, (tb_in 742 (by decide +kernel) rfl)⟩
theorem fX7_19 : Fl_ RX7 19 7 3 := ⟨RX7, TX7, 26, rfl, by decide, gi_X7, (tb_in 743 (by decide +kernel) rfl)⟩
theorem fX7_65 : Fl_ RX7 65 7 4 := ⟨RX7, TX7, 26, rfl, by decide, gi_X7, (tb_in 744 (by decide +kernel) rfl)⟩
theorem fX7_22 : Fl_ RX7 22 7 5 := ⟨RX7, TX7, 26, rfl, by decide, gi_X7, (tb_in 745 (by decide +kernel) rfl)⟩
theorem fX7_25 : Fl_ RX7 25 7 6 := ⟨RX7, TX7, 26, rfl, by decide, gi_X7, (tb_in 746 (by decide +kernel) rfl)⟩
theorem fX7_94 : Fl_ RX7 94 7 7 := ⟨RX7, TX7, 26, rfl, by decide, gi_X7, (tb_in 747 (by decide +kernel) rfl)⟩
theorem fX7_28 : Fl_ RX7 28 7 8 := ⟨RX7, TX7, 26, rfl, by decide, gi_X7, (tb_in 748 (by decide +kernel) rfl)⟩
theorem fX7_31 : Fl_ RX7 31 7 9 := ⟨RX7, TX7, 26, rfl, by decide, gi_X7, (tb_in 749 (by decide +kernel) rfl)⟩
theorem fX7_34 : Fl_ RX7 34 7 10 := ⟨RX7, TX7, 26, rfl, by decide, gi_X7, (tb_in 750 (by decide +kernel) rfl)⟩
theorem fX7_37 : Fl_ RX7 37 7 11 := ⟨RX7, TX7, 26, rfl, by decide, gi_X7, (tb_in 751 (by decide +kernel) rfl)⟩
theorem fX7_136 : Fl_ RX7 136 7 12 := ⟨RX7, TX7, 26, rfl, by decide, gi_X7, (tb_in 752 (by decide +kernel) rfl)⟩
theorem fX7_169 : Fl_ RX7 169 7 13 := ⟨RX7, TX7, 26, rfl, by decide, gi_X7, (tb_in 753 (by decide +kernel) rfl)⟩
theorem fX7_40 : Fl_ RX7 40 7 14 := ⟨RX7, TX7, 26, rfl, by decide, gi_X7, (tb_in 754 (by decide +kernel) rfl)⟩
theorem fX7_43 : Fl_ RX7 43 7 15 := ⟨RX7, TX7, 26, rfl, by decide, gi_X7, (tb_in 755 (by decide +kernel) rfl)⟩
theorem fX7_174 : Fl_ RX7 174 7 16 := ⟨RX7, TX7, 26, rfl, by decide, gi_X7, (tb_in 756 (by decide +kernel) rfl)⟩
theorem fX7_177 : Fl_ RX7 177 7 17 := ⟨RX7, TX7, 26, rfl, by decide, gi_X7, (tb_in 757 (by decide +kernel) rfl)⟩
theorem fX7_46 : Fl_ RX7 46 7 18 := ⟨RX7, TX7, 26, rfl, by decide, gi_X7, (tb_in 758 (by decide +kernel) rfl)⟩
theorem fX7_180 : Fl_ RX7 180 7 19 := ⟨RX7, TX7, 26, rfl, by decide, gi_X7, (tb_in 759 (by decide +kernel) rfl)⟩
theorem fX7_183 : Fl_ RX7 183 7 20 := ⟨RX7, TX7, 26, rfl, by decide, gi_X7, (tb_in 760 (by decide +kernel) rfl)⟩
theorem fX7_55 : Fl_ RX7 55 7 21 := ⟨RX7, TX7, 26, rfl, by decide, gi_X7, (tb_in 761 (by decide +kernel) rfl)⟩
theorem fX7_236 : Fl_ RX7 236 7 22 := ⟨RX7, TX7, 26, rfl, by decide, gi_X7, (tb_in 762 (by decide +kernel) rfl)⟩
theorem fX7_49 : Fl_ RX7 49 7 23 := ⟨RX7, TX7, 26, rfl, by decide, gi_X7, (tb_in 763 (by decide +kernel) rfl)⟩
theorem fX7_52 : Fl_ RX7 52 7 24 := ⟨RX7, TX7, 26, rfl, by decide, gi_X7, (tb_in 764 (by decide +kernel) rfl)⟩
theorem fX7_272 : Fl_ RX7 272 7 25 := ⟨RX7, TX7, 26, rfl, by decide, gi_X7, (tb_in 765 (by decide +kernel) rfl)⟩
theorem pq_0_5 : ∀ C T N, vwCl[0]? = some (C, T, N) → ((T 5).2.2.2 = false ∧ parseFieldDescriptor (T 5).2.2.1 = some .int) ∧ (∀ a, a < N → ∀ b, b < N → a ≠ b → (T a).2.1 ≠ (T b).2.1) ∧ ∃ t0 : Nat → FieldType, ∀ k, k < N → parseFieldDescriptor (T k).2.2.1 = some (t0 k) := by
  intro C T N h
  cases h
  exact ⟨⟨rfl, tyX0_ok 5 (by decide)⟩, nmX0, tyX0, tyX0_ok⟩
theorem pq_0_6 : ∀ C T N, vwCl[0]? = some (C, T, N) → ((T 6).2.2.2 = false ∧ parseFieldDescriptor (T 6).2.2.1 = some .int) ∧ (∀ a, a < N → ∀ b, b < N → a ≠ b → (T a).2.1 ≠ (T b).2.1) ∧ ∃ t0 : Nat → FieldType, ∀ k, k < N → parseFieldDescriptor (T k).2.2.1 = some (t0 k) := by
  intro C T N h
  cases h
  exact ⟨⟨rfl, tyX0_ok 6 (by decide)⟩, nmX0, tyX0, tyX0_ok⟩
theorem pq_1_0 : ∀ C T N, vwCl[1]? = some (C, T, N) → ((T 0).2.2.2 = false ∧ parseFieldDescriptor (T 0).2.2.1 = some .int) ∧ (∀ a, a < N → ∀ b, b < N → a ≠ b → (T a).2.1 ≠ (T b).2.1) ∧ ∃ t0 : Nat → FieldType, ∀ k, k < N → parseFieldDescriptor (T k).2.2.1 = some (t0 k) := by
  intro C T N h
  cases h
  exact ⟨⟨rfl, tyX1_ok 0 (by decide)⟩, nmX1, tyX1, tyX1_ok⟩
theorem pq_1_3 : ∀ C T N, vwCl[1]? = some (C, T, N) → ((T 3).2.2.2 = false ∧ parseFieldDescriptor (T 3).2.2.1 = some .int) ∧ (∀ a, a < N → ∀ b, b < N → a ≠ b → (T a).2.1 ≠ (T b).2.1) ∧ ∃ t0 : Nat → FieldType, ∀ k, k < N → parseFieldDescriptor (T k).2.2.1 = some (t0 k) := by
  intro C T N h
  cases h
  exact ⟨⟨rfl, tyX1_ok 3 (by decide)⟩, nmX1, tyX1, tyX1_ok⟩
theorem pq_1_6 : ∀ C T N, vwCl[1]? = some (C, T, N) → ((T 6).2.2.2 = false ∧ parseFieldDescriptor (T 6).2.2.1 = some .int) ∧ (∀ a, a < N → ∀ b, b < N → a ≠ b → (T a).2.1 ≠ (T b).2.1) ∧ ∃ t0 : Nat → FieldType, ∀ k, k < N → parseFieldDescriptor (T k).2.2.1 = some (t0 k) := by
  intro C T N h
  cases h
  exact ⟨⟨rfl, tyX1_ok 6 (by decide)⟩, nmX1, tyX1, tyX1_ok⟩
theorem pq_1_7 : ∀ C T N, vwCl[1]? = some (C, T, N) → ((T 7).2.2.2 = false ∧ parseFieldDescriptor (T 7).2.2.1 = some .int) ∧ (∀ a, a < N → ∀ b, b < N → a ≠ b → (T a).2.1 ≠ (T b).2.1) ∧ ∃ t0 : Nat → FieldType, ∀ k, k < N → parseFieldDescriptor (T k).2.2.1 = some (t0 k) := by
  intro C T N h
  cases h
  exact ⟨⟨rfl, tyX1_ok 7 (by decide)⟩, nmX1, tyX1, tyX1_ok⟩
theorem pq_2_2 : ∀ C T N, vwCl[2]? = some (C, T, N) → ((T 2).2.2.2 = false ∧ parseFieldDescriptor (T 2).2.2.1 = some .int) ∧ (∀ a, a < N → ∀ b, b < N → a ≠ b → (T a).2.1 ≠ (T b).2.1) ∧ ∃ t0 : Nat → FieldType, ∀ k, k < N → parseFieldDescriptor (T k).2.2.1 = some (t0 k) := by
  intro C T N h
  cases h
  exact ⟨⟨rfl, tyX2_ok 2 (by decide)⟩, nmX2, tyX2, tyX2_ok⟩
theorem pq_3_3 : ∀ C T N, vwCl[3]? = some (C, T, N) → ((T 3).2.2.2 = false ∧ parseFieldDescriptor (T 3).2.2.1 = some .int) ∧ (∀ a, a < N → ∀ b, b < N → a ≠ b → (T a).2.1 ≠ (T b).2.1) ∧ ∃ t0 : Nat → FieldType, ∀ k, k < N → parseFieldDescriptor (T k).2.2.1 = some (t0 k) := by
  intro C T N h
  cases h
  exact ⟨⟨rfl, tyX3_ok 3 (by decide)⟩, nmX3, tyX3, tyX3_ok⟩
theorem pq_3_4 : ∀ C T N, vwCl[3]? = some (C, T, N) → ((T 4).2.2.2 = false ∧ parseFieldDescriptor (T 4).2.2.1 = some .int) ∧ (∀ a, a < N → ∀ b, b < N → a ≠ b → (T a).2.1 ≠ (T b).2.1) ∧ ∃ t0 : Nat → FieldType, ∀ k, k < N → parseFieldDescriptor (T k).2.2.1 = some (t0 k) := by
  intro C T N h
  cases h
  exact ⟨⟨rfl, tyX3_ok 4 (by decide)⟩, nmX3, tyX3, tyX3_ok⟩
theorem pq_3_5 : ∀ C T N, vwCl[3]? = some (C, T, N) → ((T 5).2.2.2 = false ∧ parseFieldDescriptor (T 5).2.2.1 = some .int) ∧ (∀ a, a < N → ∀ b, b < N → a ≠ b → (T a).2.1 ≠ (T b).2.1) ∧ ∃ t0 : Nat → FieldType, ∀ k, k < N → parseFieldDescriptor (T k).2.2.1 = some (t0 k) := by
  intro C T N h
  cases h
  exact ⟨⟨rfl, tyX3_ok 5 (by decide)⟩, nmX3, tyX3, tyX3_ok⟩
theorem pq_3_6 : ∀ C T N, vwCl[3]? = some (C, T, N) → ((T 6).2.2.2 = false ∧ parseFieldDescriptor (T 6).2.2.1 = some .int) ∧ (∀ a, a < N → ∀ b, b < N → a ≠ b → (T a).2.1 ≠ (T b).2.1) ∧ ∃ t0 : Nat → FieldType, ∀ k, k < N → parseFieldDescriptor (T k).2.2.1 = some (t0 k) := by
  intro C T N h
  cases h
  exact ⟨⟨rfl, tyX3_ok 6 (by decide)⟩, nmX3, tyX3, tyX3_ok⟩
theorem pq_4_1 : ∀ C T N, vwCl[4]? = some (C, T, N) → ((T 1).2.2.2 = false ∧ parseFieldDescriptor (T 1).2.2.1 = some .boolean) ∧ (∀ a, a < N → ∀ b, b < N → a ≠ b → (T a).2.1 ≠ (T b).2.1) ∧ ∃ t0 : Nat → FieldType, ∀ k, k < N → parseFieldDescriptor (T k).2.2.1 = some (t0 k) := by
  intro C T N h
  cases h
  exact ⟨⟨rfl, tyX4_ok 1 (by decide)⟩, nmX4, tyX4, tyX4_ok⟩
theorem pq_4_2 : ∀ C T N, vwCl[4]? = some (C, T, N) → ((T 2).2.2.2 = false ∧ parseFieldDescriptor (T 2).2.2.1 = some .int) ∧ (∀ a, a < N → ∀ b, b < N → a ≠ b → (T a).2.1 ≠ (T b).2.1) ∧ ∃ t0 : Nat → FieldType, ∀ k, k < N → parseFieldDescriptor (T k).2.2.1 = some (t0 k) := by
  intro C T N h
  cases h
  exact ⟨⟨rfl, tyX4_ok 2 (by decide)⟩, nmX4, tyX4, tyX4_ok⟩
theorem pq_4_3 : ∀ C T N, vwCl[4]? = some (C, T, N) → ((T 3).2.2.2 = false ∧ parseFieldDescriptor (T 3).2.2.1 = some .int) ∧ (∀ a, a < N → ∀ b, b < N → a ≠ b → (T a).2.1 ≠ (T b).2.1) ∧ ∃ t0 : Nat → FieldType, ∀ k, k < N → parseFieldDescriptor (T k).2.2.1 = some (t0 k) := by
  intro C T N h
  cases h
  exact ⟨⟨rfl, tyX4_ok 3 (by decide)⟩, nmX4, tyX4, tyX4_ok⟩
theorem pq_5_3 : ∀ C T N, vwCl[5]? = some (C, T, N) → ((T 3).2.2.2 = false ∧ parseFieldDescriptor (T 3).2.2.1 = some .int) ∧ (∀ a, a < N → ∀ b, b < N → a ≠ b → (T a).2.1 ≠ (T b).2.1) ∧ ∃ t0 : Nat → FieldType, ∀ k, k < N → parseFieldDescriptor (T k).2.2.1 = some (t0 k) := by
  intro C T N h
  cases h
  exact ⟨⟨rfl, tyX5_ok 3 (by decide)⟩, nmX5, tyX5, tyX5_ok⟩
theorem pq_6_9 : ∀ C T N, vwCl[6]? = some (C, T, N) → ((T 9).2.2.2 = false ∧ parseFieldDescriptor (T 9).2.2.1 = some .int) ∧ (∀ a, a < N → ∀ b, b < N → a ≠ b → (T a).2.1 ≠ (T b).2.1) ∧ ∃ t0 : Nat → FieldType, ∀ k, k < N → parseFieldDescriptor (T k).2.2.1 = some (t0 k) := by
  intro C T N h
  cases h
  exact ⟨⟨rfl, tyX6_ok 9 (by decide)⟩, nmX6, tyX6, tyX6_ok⟩
theorem pq_6_10 : ∀ C T N, vwCl[6]? = some (C, T, N) → ((T 10).2.2.2 = false ∧ parseFieldDescriptor (T 10).2.2.1 = some .int) ∧ (∀ a, a < N → ∀ b, b < N → a ≠ b → (T a).2.1 ≠ (T b).2.1) ∧ ∃ t0 : Nat → FieldType, ∀ k, k < N → parseFieldDescriptor (T k).2.2.1 = some (t0 k) := by
  intro C T N h
  cases h
  exact ⟨⟨rfl, tyX6_ok 10 (by decide)⟩, nmX6, tyX6, tyX6_ok⟩
theorem pq_7_4 : ∀ C T N, vwCl[7]? = some (C, T, N) → ((T 4).2.2.2 = false ∧ parseFieldDescriptor (T 4).2.2.1 = some .int) ∧ (∀ a, a < N → ∀ b, b < N → a ≠ b → (T a).2.1 ≠ (T b).2.1) ∧ ∃ t0 : Nat → FieldType, ∀ k, k < N → parseFieldDescriptor (T k).2.2.1 = some (t0 k) := by
  intro C T N h
  cases h
  exact ⟨⟨rfl, tyX7_ok 4 (by decide)⟩, nmX7, tyX7, tyX7_ok⟩
theorem pq_7_7 : ∀ C T N, vwCl[7]? = some (C, T, N) → ((T 7).2.2.2 = false ∧ parseFieldDescriptor (T 7).2.2.1 = some .int) ∧ (∀ a, a < N → ∀ b, b < N → a ≠ b → (T a).2.1 ≠ (T b).2.1) ∧ ∃ t0 : Nat → FieldType, ∀ k, k < N → parseFieldDescriptor (T k).2.2.1 = some (t0 k) := by
  intro C T N h
  cases h
  exact ⟨⟨rfl, tyX7_ok 7 (by decide)⟩, nmX7, tyX7, tyX7_ok⟩
theorem pq_7_12 : ∀ C T N, vwCl[7]? = some (C, T, N) → ((T 12).2.2.2 = false ∧ parseFieldDescriptor (T 12).2.2.1 = some .int) ∧ (∀ a, a < N → ∀ b, b < N → a ≠ b → (T a).2.1 ≠ (T b).2.1) ∧ ∃ t0 : Nat → FieldType, ∀ k, k < N → parseFieldDescriptor (T k).2.2.1 = some (t0 k) := by
  intro C T N h
  cases h
  exact ⟨⟨rfl, tyX7_ok 12 (by decide)⟩, nmX7, tyX7, tyX7_ok⟩
theorem pq_7_13 : ∀ C T N, vwCl[7]? = some (C, T, N) → ((T 13).2.2.2 = false ∧ parseFieldDescriptor (T 13).2.2.1 = some .int) ∧ (∀ a, a < N → ∀ b, b < N → a ≠ b → (T a).2.1 ≠ (T b).2.1) ∧ ∃ t0 : Nat → FieldType, ∀ k, k < N → parseFieldDescriptor (T k).2.2.1 = some (t0 k) := by
  intro C T N h
  cases h
  exact ⟨⟨rfl, tyX7_ok 13 (by decide)⟩, nmX7, tyX7, tyX7_ok⟩
theorem pq_7_16 : ∀ C T N, vwCl[7]? = some (C, T, N) → ((T 16).2.2.2 = false ∧ parseFieldDescriptor (T 16).2.2.1 = some .int) ∧ (∀ a, a < N → ∀ b, b < N → a ≠ b → (T a).2.1 ≠ (T b).2.1) ∧ ∃ t0 : Nat → FieldType, ∀ k, k < N → parseFieldDescriptor (T k).2.2.1 = some (t0 k) := by
  intro C T N h
  cases h
  exact ⟨⟨rfl, tyX7_ok 16 (by decide)⟩, nmX7, tyX7, tyX7_ok⟩
theorem pq_7_17 : ∀ C T N, vwCl[7]? = some (C, T, N) → ((T 17).2.2.2 = false ∧ parseFieldDescriptor (T 17).2.2.1 = some .int) ∧ (∀ a, a < N → ∀ b, b < N → a ≠ b → (T a).2.1 ≠ (T b).2.1) ∧ ∃ t0 : Nat → FieldType, ∀ k, k < N → parseFieldDescriptor (T k).2.2.1 = some (t0 k) := by
  intro C T N h
  cases h
  exact ⟨⟨rfl, tyX7_ok 17 (by decide)⟩, nmX7, tyX7, tyX7_ok⟩
theorem pq_7_19 : ∀ C T N, vwCl[7]? = some (C, T, N) → ((T 19).2.2.2 = false ∧ parseFieldDescriptor (T 19).2.2.1 = some .int) ∧ (∀ a, a < N → ∀ b, b < N → a ≠ b → (T a).2.1 ≠ (T b).2.1) ∧ ∃ t0 : Nat → FieldType, ∀ k, k < N → parseFieldDescriptor (T k).2.2.1 = some (t0 k) := by
  intro C T N h
  cases h
  exact ⟨⟨rfl, tyX7_ok 19 (by decide)⟩, nmX7, tyX7, tyX7_ok⟩
theorem pq_7_20 : ∀ C T N, vwCl[7]? = some (C, T, N) → ((T 20).2.2.2 = false ∧ parseFieldDescriptor (T 20).2.2.1 = some .int) ∧ (∀ a, a < N → ∀ b, b < N → a ≠ b → (T a).2.1 ≠ (T b).2.1) ∧ ∃ t0 : Nat → FieldType, ∀ k, k < N → parseFieldDescriptor (T k).2.2.1 = some (t0 k) := by
  intro C T N h
  cases h
  exact ⟨⟨rfl, tyX7_ok 20 (by decide)⟩, nmX7, tyX7, tyX7_ok⟩
theorem pq_7_21 : ∀ C T N, vwCl[7]? = some (C, T, N) → ((T 21).2.2.2 = false ∧ parseFieldDescriptor (T 21).2.2.1 = some .int) ∧ (∀ a, a < N → ∀ b, b < N → a ≠ b → (T a).2.1 ≠ (T b).2.1) ∧ ∃ t0 : Nat → FieldType, ∀ k, k < N → parseFieldDescriptor (T k).2.2.1 = some (t0 k) := by
  intro C T N h
  cases h
  exact ⟨⟨rfl, tyX7_ok 21 (by decide)⟩, nmX7, tyX7, tyX7_ok⟩
theorem pq_7_22 : ∀ C T N, vwCl[7]? = some (C, T, N) → ((T 22).2.2.2 = false ∧ parseFieldDescriptor (T 22).2.2.1 = some .int) ∧ (∀ a, a < N → ∀ b, b < N → a ≠ b → (T a).2.1 ≠ (T b).2.1) ∧ ∃ t0 : Nat → FieldType, ∀ k, k < N → parseFieldDescriptor (T k).2.2.1 = some (t0 k) := by
  intro C T N h
  cases h
  exact ⟨⟨rfl, tyX7_ok 22 (by decide)⟩, nmX7, tyX7, tyX7_ok⟩
theorem pq_7_25 : ∀ C T N, vwCl[7]? = some (C, T, N) → ((T 25).2.2.2 = false ∧ parseFieldDescriptor (T 25).2.2.1 = some .int) ∧ (∀ a, a < N → ∀ b, b < N → a ≠ b → (T a).2.1 ≠ (T b).2.1) ∧ ∃ t0 : Nat → FieldType, ∀ k, k < N → parseFieldDescriptor (T k).2.2.1 = some (t0 k) := by
  intro C T N h
  cases h
  exact ⟨⟨rfl, tyX7_ok 25 (by decide)⟩, nmX7, tyX7, tyX7_ok⟩
theorem kX5_15 : Lk_ RX5 15 mJ0_length_8abf5 0 := ⟨(tb_in 32 (by decide +kernel) rfl), (tb_in 3 (by decide +kernel) rfl), (tb_in 35 (by decide +kernel) rfl), ⟨by decide +kernel, by decide +kernel, by decide +kernel⟩, by decide +kernel⟩
theorem kJ0_335 : Lk_ RJ0 335 mJ0_coder_7d493 0 := ⟨(tb_in 36 (by decide +kernel) rfl), (tb_in 3 (by decide +kernel) rfl), (tb_in 39 (by decide +kernel) rfl), ⟨by decide +kernel, by decide +kernel, by decide +kernel⟩, by decide +kernel⟩
theorem kL_13 : Lk_ "DrownedNamesLaw" 13 mX6_type 2 := ⟨(tb_in 275 (by decide +kernel) rfl), (tb_in 1 (by decide +kernel) rfl), (tb_in 278 (by decide +kernel) rfl), ⟨by decide +kernel, by decide +kernel, by decide +kernel⟩, by decide +kernel⟩
theorem kX6_74 : Lk_ RX6 74 mX6_textAt 1 := ⟨(tb_in 279 (by decide +kernel) rfl), (tb_in 1 (by decide +kernel) rfl), (tb_in 282 (by decide +kernel) rfl), ⟨by decide +kernel, by decide +kernel, by decide +kernel⟩, by decide +kernel⟩
theorem kX6_78 : Lk_ RX6 78 mX6_isWithin 2 := ⟨(tb_in 283 (by decide +kernel) rfl), (tb_in 1 (by decide +kernel) rfl), (tb_in 285 (by decide +kernel) rfl), ⟨by decide +kernel, by decide +kernel, by decide +kernel⟩, by decide +kernel⟩
theorem kX6_82 : Lk_ RX6 82 mX5_isFull 0 := ⟨(tb_in 286 (by decide +kernel) rfl), (tb_in 2 (by decide +kernel) rfl), (tb_in 289 (by decide +kernel) rfl), ⟨by decide +kernel, by decide +kernel, by decide +kernel⟩, by decide +kernel⟩
theorem kX6_86 : Lk_ RX6 86 mX5_append 1 := ⟨(tb_in 290 (by decide +kernel) rfl), (tb_in 2 (by decide +kernel) rfl), (tb_in 293 (by decide +kernel) rfl), ⟨by decide +kernel, by decide +kernel, by decide +kernel⟩, by decide +kernel⟩
theorem kX5_31 : Lk_ RX5 31 mX5_isFull 0 := ⟨(tb_in 294 (by decide +kernel) rfl), (tb_in 2 (by decide +kernel) rfl), (tb_in 289 (by decide +kernel) rfl), ⟨by decide +kernel, by decide +kernel, by decide +kernel⟩, by decide +kernel⟩
theorem kX6_89 : Lk_ RX6 89 mX6_settle 0 := ⟨(tb_in 295 (by decide +kernel) rfl), (tb_in 1 (by decide +kernel) rfl), (tb_in 298 (by decide +kernel) rfl), ⟨by decide +kernel, by decide +kernel, by decide +kernel⟩, by decide +kernel⟩
theorem kX6_360 : Lk_ RX6 360 mX1_settleShips 1 := ⟨(tb_in 299 (by decide +kernel) rfl), (tb_in 5 (by decide +kernel) rfl), (tb_in 302 (by decide +kernel) rfl), ⟨by decide +kernel, by decide +kernel, by decide +kernel⟩, by decide +kernel⟩
theorem kX1_52 : Lk_ RX1 52 mX5_items 0 := ⟨(tb_in 303 (by decide +kernel) rfl), (tb_in 2 (by decide +kernel) rfl), (tb_in 306 (by decide +kernel) rfl), ⟨by decide +kernel, by decide +kernel, by decide +kernel⟩, by decide +kernel⟩
theorem kX5_46 : Lk_ RX5 46 mX5_faultPlace 0 := ⟨(tb_in 307 (by decide +kernel) rfl), (tb_in 2 (by decide +kernel) rfl), (tb_in 310 (by decide +kernel) rfl), ⟨by decide +kernel, by decide +kernel, by decide +kernel⟩, by decide +kernel⟩
theorem kX5_42 : Lk_ RX5 42 mX5_goesOnAt 1 := ⟨(tb_in 311 (by decide +kernel) rfl), (tb_in 2 (by decide +kernel) rfl), (tb_in 314 (by decide +kernel) rfl), ⟨by decide +kernel, by decide +kernel, by decide +kernel⟩, by decide +kernel⟩
theorem kX5_35 : Lk_ RX5 35 mX5_byteAt 1 := ⟨(tb_in 315 (by decide +kernel) rfl), (tb_in 2 (by decide +kernel) rfl), (tb_in 318 (by decide +kernel) rfl), ⟨by decide +kernel, by decide +kernel, by decide +kernel⟩, by decide +kernel⟩
theorem kX5_49 : Lk_ RX5 49 mJ0_charAt_5068e 1 := ⟨(tb_in 319 (by decide +kernel) rfl), (tb_in 3 (by decide +kernel) rfl), (tb_in 322 (by decide +kernel) rfl), ⟨by decide +kernel, by decide +kernel, by decide +kernel⟩, by decide +kernel⟩
theorem kJ0_492 : Lk_ RJ0 492 mJ0_isLatin1_aae02 0 := ⟨(tb_in 323 (by decide +kernel) rfl), (tb_in 3 (by decide +kernel) rfl), (tb_in 326 (by decide +kernel) rfl), ⟨by decide +kernel, by decide +kernel, by decide +kernel⟩, by decide +kernel⟩
theorem kJ0_495 : Lk_ RJ0 495 mJ1_charAt_3b067 2 := ⟨(tb_in 327 (by decide +kernel) rfl), (tb_in 10 (by decide +kernel) rfl), (tb_in 329 (by decide +kernel) rfl), ⟨by decide +kernel, by decide +kernel, by decide +kernel⟩, by decide +kernel⟩
theorem kJ1_9 : Lk_ RJ1 9 mJ0_checkIndex_df160 2 := ⟨(tb_in 330 (by decide +kernel) rfl), (tb_in 3 (by decide +kernel) rfl), (tb_in 332 (by decide +kernel) rfl), ⟨by decide +kernel, by decide +kernel, by decide +kernel⟩, by decide +kernel⟩
theorem kJ0_1059 : Lk_ RJ0 1059 mJ3_checkIndex_8e157 3 := ⟨(tb_in 335 (by decide +kernel) rfl), (tb_in 11 (by decide +kernel) rfl), (tb_in 337 (by decide +kernel) rfl), ⟨by decide +kernel, by decide +kernel, by decide +kernel⟩, by decide +kernel⟩
theorem kJ0_498 : Lk_ RJ0 498 mJ2_charAt_3b067 2 := ⟨(tb_in 338 (by decide +kernel) rfl), (tb_in 12 (by decide +kernel) rfl), (tb_in 340 (by decide +kernel) rfl), ⟨by decide +kernel, by decide +kernel, by decide +kernel⟩, by decide +kernel⟩
theorem kJ2_67 : Lk_ RJ2 67 mJ2_checkIndex_2214a 2 := ⟨(tb_in 341 (by decide +kernel) rfl), (tb_in 12 (by decide +kernel) rfl), (tb_in 343 (by decide +kernel) rfl), ⟨by decide +kernel, by decide +kernel, by decide +kernel⟩, by decide +kernel⟩
theorem kJ2_48 : Lk_ RJ2 48 mJ2_length_9d52b 1 := ⟨(tb_in 344 (by decide +kernel) rfl), (tb_in 12 (by decide +kernel) rfl), (tb_in 346 (by decide +kernel) rfl), ⟨by decide +kernel, by decide +kernel, by decide +kernel⟩, by decide +kernel⟩
theorem kJ2_414 : Lk_ RJ2 414 mJ0_checkIndex_df160 2 := ⟨(tb_in 347 (by decide +kernel) rfl), (tb_in 3 (by decide +kernel) rfl), (tb_in 332 (by decide +kernel) rfl), ⟨by decide +kernel, by decide +kernel, by decide +kernel⟩, by decide +kernel⟩
theorem kJ2_71 : Lk_ RJ2 71 mJ2_getChar_3b067 2 := ⟨(tb_in 348 (by decide +kernel) rfl), (tb_in 12 (by decide +kernel) rfl), (tb_in 350 (by decide +kernel) rfl), ⟨by decide +kernel, by decide +kernel, by decide +kernel⟩, by decide +kernel⟩
theorem kX5_53 : Lk_ RX5 53 mX5_isBetween 3 := ⟨(tb_in 357 (by decide +kernel) rfl), (tb_in 2 (by decide +kernel) rfl), (tb_in 359 (by decide +kernel) rfl), ⟨by decide +kernel, by decide +kernel, by decide +kernel⟩, by decide +kernel⟩
theorem kX1_67 : Lk_ RX1 67 mX5_figuresAt 1 := ⟨(tb_in 363 (by decide +kernel) rfl), (tb_in 2 (by decide +kernel) rfl), (tb_in 366 (by decide +kernel) rfl), ⟨by decide +kernel, by decide +kernel, by decide +kernel⟩, by decide +kernel⟩
theorem kX5_39 : Lk_ RX5 39 mX5_figureAt 1 := ⟨(tb_in 367 (by decide +kernel) rfl), (tb_in 2 (by decide +kernel) rfl), (tb_in 370 (by decide +kernel) rfl), ⟨by decide +kernel, by decide +kernel, by decide +kernel⟩, by decide +kernel⟩
theorem kX1_71 : Lk_ RX1 71 mX5_figureAt 1 := ⟨(tb_in 371 (by decide +kernel) rfl), (tb_in 2 (by decide +kernel) rfl), (tb_in 370 (by decide +kernel) rfl), ⟨by decide +kernel, by decide +kernel, by decide +kernel⟩, by decide +kernel⟩
theorem kX6_364 : Lk_ RX6 364 mX1_settleNames 1 := ⟨(tb_in 372 (by decide +kernel) rfl), (tb_in 5 (by decide +kernel) rfl), (tb_in 375 (by decide +kernel) rfl), ⟨by decide +kernel, by decide +kernel, by decide +kernel⟩, by decide +kernel⟩
theorem kX1_74 : Lk_ RX1 74 mX5_byteAt 1 := ⟨(tb_in 376 (by decide +kernel) rfl), (tb_in 2 (by decide +kernel) rfl), (tb_in 318 (by decide +kernel) rfl), ⟨by decide +kernel, by decide +kernel, by decide +kernel⟩, by decide +kernel⟩
theorem kX6_367 : Lk_ RX6 367 mX1_settleLines 1 := ⟨(tb_in 377 (by decide +kernel) rfl), (tb_in 5 (by decide +kernel) rfl), (tb_in 380 (by decide +kernel) rfl), ⟨by decide +kernel, by decide +kernel, by decide +kernel⟩, by decide +kernel⟩
theorem kX6_220 : Lk_ RX6 220 mX1_strikeOut 1 := ⟨(tb_in 381 (by decide +kernel) rfl), (tb_in 5 (by decide +kernel) rfl), (tb_in 384 (by decide +kernel) rfl), ⟨by decide +kernel, by decide +kernel, by decide +kernel⟩, by decide +kernel⟩
theorem kX1_77 : Lk_ RX1 77 mX1_bearerOf 2 := ⟨(tb_in 385 (by decide +kernel) rfl), (tb_in 5 (by decide +kernel) rfl), (tb_in 388 (by decide +kernel) rfl), ⟨by decide +kernel, by decide +kernel, by decide +kernel⟩, by decide +kernel⟩
theorem kX1_87 : Lk_ RX1 87 mX1_hasName 1 := ⟨(tb_in 389 (by decide +kernel) rfl), (tb_in 5 (by decide +kernel) rfl), (tb_in 392 (by decide +kernel) rfl), ⟨by decide +kernel, by decide +kernel, by decide +kernel⟩, by decide +kernel⟩
theorem kX1_80 : Lk_ RX1 80 mX1_isVoid 2 := ⟨(tb_in 393 (by decide +kernel) rfl), (tb_in 5 (by decide +kernel) rfl), (tb_in 396 (by decide +kernel) rfl), ⟨by decide +kernel, by decide +kernel, by decide +kernel⟩, by decide +kernel⟩
theorem kX1_91 : Lk_ RX1 91 mX1_hasShip 1 := ⟨(tb_in 397 (by decide +kernel) rfl), (tb_in 5 (by decide +kernel) rfl), (tb_in 400 (by decide +kernel) rfl), ⟨by decide +kernel, by decide +kernel, by decide +kernel⟩, by decide +kernel⟩
theorem kX1_84 : Lk_ RX1 84 mX1_dueOfLine 2 := ⟨(tb_in 401 (by decide +kernel) rfl), (tb_in 5 (by decide +kernel) rfl), (tb_in 404 (by decide +kernel) rfl), ⟨by decide +kernel, by decide +kernel, by decide +kernel⟩, by decide +kernel⟩
theorem kL_18 : Lk_ "DrownedNamesLaw" 18 mX6_wipe 1 := ⟨(tb_in 405 (by decide +kernel) rfl), (tb_in 1 (by decide +kernel) rfl), (tb_in 408 (by decide +kernel) rfl), ⟨by decide +kernel, by decide +kernel, by decide +kernel⟩, by decide +kernel⟩
theorem kL_23 : Lk_ "DrownedNamesLaw" 23 mX6_undo 1 := ⟨(tb_in 409 (by decide +kernel) rfl), (tb_in 1 (by decide +kernel) rfl), (tb_in 412 (by decide +kernel) rfl), ⟨by decide +kernel, by decide +kernel, by decide +kernel⟩, by decide +kernel⟩
theorem kL_27 : Lk_ "DrownedNamesLaw" 27 mX6_fault 1 := ⟨(tb_in 413 (by decide +kernel) rfl), (tb_in 1 (by decide +kernel) rfl), (tb_in 416 (by decide +kernel) rfl), ⟨by decide +kernel, by decide +kernel, by decide +kernel⟩, by decide +kernel⟩
theorem kX6_96 : Lk_ RX6 96 mX5_faultPlace 0 := ⟨(tb_in 417 (by decide +kernel) rfl), (tb_in 2 (by decide +kernel) rfl), (tb_in 310 (by decide +kernel) rfl), ⟨by decide +kernel, by decide +kernel, by decide +kernel⟩, by decide +kernel⟩
theorem kL_31 : Lk_ "DrownedNamesLaw" 31 mX6_ship 2 := ⟨(tb_in 418 (by decide +kernel) rfl), (tb_in 1 (by decide +kernel) rfl), (tb_in 421 (by decide +kernel) rfl), ⟨by decide +kernel, by decide +kernel, by decide +kernel⟩, by decide +kernel⟩
theorem kX6_100 : Lk_ RX6 100 mX1_hasShip 1 := ⟨(tb_in 422 (by decide +kernel) rfl), (tb_in 5 (by decide +kernel) rfl), (tb_in 400 (by decide +kernel) rfl), ⟨by decide +kernel, by decide +kernel, by decide +kernel⟩, by decide +kernel⟩
theorem kL_35 : Lk_ "DrownedNamesLaw" 35 mX6_name 2 := ⟨(tb_in 423 (by decide +kernel) rfl), (tb_in 1 (by decide +kernel) rfl), (tb_in 426 (by decide +kernel) rfl), ⟨by decide +kernel, by decide +kernel, by decide +kernel⟩, by decide +kernel⟩
theorem kX6_111 : Lk_ RX6 111 mX1_hasName 1 := ⟨(tb_in 427 (by decide +kernel) rfl), (tb_in 5 (by decide +kernel) rfl), (tb_in 392 (by decide +kernel) rfl), ⟨by decide +kernel, by decide +kernel, by decide +kernel⟩, by decide +kernel⟩
theorem kX6_117 : Lk_ RX6 117 mX1_isDrowned 1 := ⟨(tb_in 428 (by decide +kernel) rfl), (tb_in 5 (by decide +kernel) rfl), (tb_in 431 (by decide +kernel) rfl), ⟨by decide +kernel, by decide +kernel, by decide +kernel⟩, by decide +kernel⟩
theorem kL_39 : Lk_ "DrownedNamesLaw" 39 mX6_line 2 := ⟨(tb_in 432 (by decide +kernel) rfl), (tb_in 1 (by decide +kernel) rfl), (tb_in 435 (by decide +kernel) rfl), ⟨by decide +kernel, by decide +kernel, by decide +kernel⟩, by decide +kernel⟩
theorem kX6_123 : Lk_ RX6 123 mX1_hasLine 1 := ⟨(tb_in 436 (by decide +kernel) rfl), (tb_in 5 (by decide +kernel) rfl), (tb_in 439 (by decide +kernel) rfl), ⟨by decide +kernel, by decide +kernel, by decide +kernel⟩, by decide +kernel⟩
theorem kL_43 : Lk_ "DrownedNamesLaw" 43 mX6_struck 1 := ⟨(tb_in 440 (by decide +kernel) rfl), (tb_in 1 (by decide +kernel) rfl), (tb_in 443 (by decide +kernel) rfl), ⟨by decide +kernel, by decide +kernel, by decide +kernel⟩, by decide +kernel⟩
theorem kL_47 : Lk_ "DrownedNamesLaw" 47 mX6_loss 2 := ⟨(tb_in 444 (by decide +kernel) rfl), (tb_in 1 (by decide +kernel) rfl), (tb_in 447 (by decide +kernel) rfl), ⟨by decide +kernel, by decide +kernel, by decide +kernel⟩, by decide +kernel⟩
theorem kX6_141 : Lk_ RX6 141 mX6_isLoss 2 := ⟨(tb_in 448 (by decide +kernel) rfl), (tb_in 1 (by decide +kernel) rfl), (tb_in 450 (by decide +kernel) rfl), ⟨by decide +kernel, by decide +kernel, by decide +kernel⟩, by decide +kernel⟩
theorem kX6_176 : Lk_ RX6 176 mX6_isYear 1 := ⟨(tb_in 451 (by decide +kernel) rfl), (tb_in 1 (by decide +kernel) rfl), (tb_in 453 (by decide +kernel) rfl), ⟨by decide +kernel, by decide +kernel, by decide +kernel⟩, by decide +kernel⟩
theorem kX6_144 : Lk_ RX6 144 mX2_isFull 0 := ⟨(tb_in 454 (by decide +kernel) rfl), (tb_in 4 (by decide +kernel) rfl), (tb_in 457 (by decide +kernel) rfl), ⟨by decide +kernel, by decide +kernel, by decide +kernel⟩, by decide +kernel⟩
theorem kX6_145 : Lk_ RX6 145 mX2_append 2 := ⟨(tb_in 458 (by decide +kernel) rfl), (tb_in 4 (by decide +kernel) rfl), (tb_in 461 (by decide +kernel) rfl), ⟨by decide +kernel, by decide +kernel, by decide +kernel⟩, by decide +kernel⟩
theorem kX2_20 : Lk_ RX2 20 mX2_isFull 0 := ⟨(tb_in 462 (by decide +kernel) rfl), (tb_in 4 (by decide +kernel) rfl), (tb_in 457 (by decide +kernel) rfl), ⟨by decide +kernel, by decide +kernel, by decide +kernel⟩, by decide +kernel⟩
theorem kL_51 : Lk_ "DrownedNamesLaw" 51 mX6_back 0 := ⟨(tb_in 463 (by decide +kernel) rfl), (tb_in 1 (by decide +kernel) rfl), (tb_in 466 (by decide +kernel) rfl), ⟨by decide +kernel, by decide +kernel, by decide +kernel⟩, by decide +kernel⟩
theorem kL_56 : Lk_ "DrownedNamesLaw" 56 mX6_read 1 := ⟨(tb_in 467 (by decide +kernel) rfl), (tb_in 1 (by decide +kernel) rfl), (tb_in 470 (by decide +kernel) rfl), ⟨by decide +kernel, by decide +kernel, by decide +kernel⟩, by decide +kernel⟩
theorem kX6_151 : Lk_ RX6 151 mX6_sheetAt 1 := ⟨(tb_in 471 (by decide +kernel) rfl), (tb_in 1 (by decide +kernel) rfl), (tb_in 474 (by decide +kernel) rfl), ⟨by decide +kernel, by decide +kernel, by decide +kernel⟩, by decide +kernel⟩
theorem kX6_159 : Lk_ RX6 159 mX6_found 1 := ⟨(tb_in 475 (by decide +kernel) rfl), (tb_in 1 (by decide +kernel) rfl), (tb_in 478 (by decide +kernel) rfl), ⟨by decide +kernel, by decide +kernel, by decide +kernel⟩, by decide +kernel⟩
theorem kL_60 : Lk_ "DrownedNamesLaw" 60 mX6_bearer 2 := ⟨(tb_in 479 (by decide +kernel) rfl), (tb_in 1 (by decide +kernel) rfl), (tb_in 482 (by decide +kernel) rfl), ⟨by decide +kernel, by decide +kernel, by decide +kernel⟩, by decide +kernel⟩
theorem kX6_170 : Lk_ RX6 170 mX1_namesBorneBy 1 := ⟨(tb_in 483 (by decide +kernel) rfl), (tb_in 5 (by decide +kernel) rfl), (tb_in 486 (by decide +kernel) rfl), ⟨by decide +kernel, by decide +kernel, by decide +kernel⟩, by decide +kernel⟩
theorem kL_64 : Lk_ "DrownedNamesLaw" 64 mX6_borne 2 := ⟨(tb_in 487 (by decide +kernel) rfl), (tb_in 1 (by decide +kernel) rfl), (tb_in 490 (by decide +kernel) rfl), ⟨by decide +kernel, by decide +kernel, by decide +kernel⟩, by decide +kernel⟩
theorem kX6_173 : Lk_ RX6 173 mX1_dueOf 2 := ⟨(tb_in 491 (by decide +kernel) rfl), (tb_in 5 (by decide +kernel) rfl), (tb_in 494 (by decide +kernel) rfl), ⟨by decide +kernel, by decide +kernel, by decide +kernel⟩, by decide +kernel⟩
theorem kL_68 : Lk_ "DrownedNamesLaw" 68 mX6_unborne 1 := ⟨(tb_in 495 (by decide +kernel) rfl), (tb_in 1 (by decide +kernel) rfl), (tb_in 498 (by decide +kernel) rfl), ⟨by decide +kernel, by decide +kernel, by decide +kernel⟩, by decide +kernel⟩
theorem kL_72 : Lk_ "DrownedNamesLaw" 72 mX6_left 2 := ⟨(tb_in 499 (by decide +kernel) rfl), (tb_in 1 (by decide +kernel) rfl), (tb_in 502 (by decide +kernel) rfl), ⟨by decide +kernel, by decide +kernel, by decide +kernel⟩, by decide +kernel⟩
theorem kX6_179 : Lk_ RX6 179 mX3_followTold 2 := ⟨(tb_in 503 (by decide +kernel) rfl), (tb_in 6 (by decide +kernel) rfl), (tb_in 506 (by decide +kernel) rfl), ⟨by decide +kernel, by decide +kernel, by decide +kernel⟩, by decide +kernel⟩
theorem kX3_22 : Lk_ RX3 22 mX3_begin 0 := ⟨(tb_in 507 (by decide +kernel) rfl), (tb_in 6 (by decide +kernel) rfl), (tb_in 510 (by decide +kernel) rfl), ⟨by decide +kernel, by decide +kernel, by decide +kernel⟩, by decide +kernel⟩
theorem kX3_66 : Lk_ RX3 66 mJ7_fill_53178 2 := ⟨(tb_in 514 (by decide +kernel) rfl), (tb_in 15 (by decide +kernel) rfl), (tb_in 516 (by decide +kernel) rfl), ⟨by decide +kernel, by decide +kernel, by decide +kernel⟩, by decide +kernel⟩
theorem kX3_37 : Lk_ RX3 37 mX3_sink 3 := ⟨(tb_in 517 (by decide +kernel) rfl), (tb_in 6 (by decide +kernel) rfl), (tb_in 520 (by decide +kernel) rfl), ⟨by decide +kernel, by decide +kernel, by decide +kernel⟩, by decide +kernel⟩
theorem kX3_54 : Lk_ RX3 54 mX1_hasShip 1 := ⟨(tb_in 521 (by decide +kernel) rfl), (tb_in 5 (by decide +kernel) rfl), (tb_in 400 (by decide +kernel) rfl), ⟨by decide +kernel, by decide +kernel, by decide +kernel⟩, by decide +kernel⟩
theorem kX3_46 : Lk_ RX3 46 mX3_isLost 1 := ⟨(tb_in 522 (by decide +kernel) rfl), (tb_in 6 (by decide +kernel) rfl), (tb_in 525 (by decide +kernel) rfl), ⟨by decide +kernel, by decide +kernel, by decide +kernel⟩, by decide +kernel⟩
theorem kX3_105 : Lk_ RX3 105 mX1_isDrowned 1 := ⟨(tb_in 527 (by decide +kernel) rfl), (tb_in 5 (by decide +kernel) rfl), (tb_in 431 (by decide +kernel) rfl), ⟨by decide +kernel, by decide +kernel, by decide +kernel⟩, by decide +kernel⟩
theorem kX3_108 : Lk_ RX3 108 mX3_breakName 2 := ⟨(tb_in 528 (by decide +kernel) rfl), (tb_in 6 (by decide +kernel) rfl), (tb_in 531 (by decide +kernel) rfl), ⟨by decide +kernel, by decide +kernel, by decide +kernel⟩, by decide +kernel⟩
theorem kL_76 : Lk_ "DrownedNamesLaw" 76 mX6_behind 2 := ⟨(tb_in 532 (by decide +kernel) rfl), (tb_in 1 (by decide +kernel) rfl), (tb_in 535 (by decide +kernel) rfl), ⟨by decide +kernel, by decide +kernel, by decide +kernel⟩, by decide +kernel⟩
theorem kL_80 : Lk_ "DrownedNamesLaw" 80 mX6_paid 2 := ⟨(tb_in 536 (by decide +kernel) rfl), (tb_in 1 (by decide +kernel) rfl), (tb_in 539 (by decide +kernel) rfl), ⟨by decide +kernel, by decide +kernel, by decide +kernel⟩, by decide +kernel⟩
theorem kL_84 : Lk_ "DrownedNamesLaw" 84 mX6_first 1 := ⟨(tb_in 540 (by decide +kernel) rfl), (tb_in 1 (by decide +kernel) rfl), (tb_in 543 (by decide +kernel) rfl), ⟨by decide +kernel, by decide +kernel, by decide +kernel⟩, by decide +kernel⟩
theorem kL_88 : Lk_ "DrownedNamesLaw" 88 mX6_safe 0 := ⟨(tb_in 544 (by decide +kernel) rfl), (tb_in 1 (by decide +kernel) rfl), (tb_in 547 (by decide +kernel) rfl), ⟨by decide +kernel, by decide +kernel, by decide +kernel⟩, by decide +kernel⟩
theorem kX6_203 : Lk_ RX6 203 mX3_loseAlone 2 := ⟨(tb_in 548 (by decide +kernel) rfl), (tb_in 6 (by decide +kernel) rfl), (tb_in 551 (by decide +kernel) rfl), ⟨by decide +kernel, by decide +kernel, by decide +kernel⟩, by decide +kernel⟩
theorem kL_92 : Lk_ "DrownedNamesLaw" 92 mX6_take 1 := ⟨(tb_in 552 (by decide +kernel) rfl), (tb_in 1 (by decide +kernel) rfl), (tb_in 555 (by decide +kernel) rfl), ⟨by decide +kernel, by decide +kernel, by decide +kernel⟩, by decide +kernel⟩
theorem kX6_209 : Lk_ RX6 209 mX1_hasTogether 1 := ⟨(tb_in 556 (by decide +kernel) rfl), (tb_in 5 (by decide +kernel) rfl), (tb_in 559 (by decide +kernel) rfl), ⟨by decide +kernel, by decide +kernel, by decide +kernel⟩, by decide +kernel⟩
theorem kX6_212 : Lk_ RX6 212 mJ6_bitCount_0f7a4 1 := ⟨(tb_in 560 (by decide +kernel) rfl), (tb_in 16 (by decide +kernel) rfl), (tb_in 562 (by decide +kernel) rfl), ⟨by decide +kernel, by decide +kernel, by decide +kernel⟩, by decide +kernel⟩
theorem kL_96 : Lk_ "DrownedNamesLaw" 96 mX6_strike 2 := ⟨(tb_in 566 (by decide +kernel) rfl), (tb_in 1 (by decide +kernel) rfl), (tb_in 569 (by decide +kernel) rfl), ⟨by decide +kernel, by decide +kernel, by decide +kernel⟩, by decide +kernel⟩
theorem kX6_217 : Lk_ RX6 217 mX1_dueOfAllShips 1 := ⟨(tb_in 570 (by decide +kernel) rfl), (tb_in 5 (by decide +kernel) rfl), (tb_in 573 (by decide +kernel) rfl), ⟨by decide +kernel, by decide +kernel, by decide +kernel⟩, by decide +kernel⟩
theorem kX1_94 : Lk_ RX1 94 mX1_dueOf 2 := ⟨(tb_in 574 (by decide +kernel) rfl), (tb_in 5 (by decide +kernel) rfl), (tb_in 494 (by decide +kernel) rfl), ⟨by decide +kernel, by decide +kernel, by decide +kernel⟩, by decide +kernel⟩
theorem kL_100 : Lk_ "DrownedNamesLaw" 100 mX6_seen 2 := ⟨(tb_in 575 (by decide +kernel) rfl), (tb_in 1 (by decide +kernel) rfl), (tb_in 578 (by decide +kernel) rfl), ⟨by decide +kernel, by decide +kernel, by decide +kernel⟩, by decide +kernel⟩
theorem kL_104 : Lk_ "DrownedNamesLaw" 104 mX6_forget 0 := ⟨(tb_in 579 (by decide +kernel) rfl), (tb_in 1 (by decide +kernel) rfl), (tb_in 582 (by decide +kernel) rfl), ⟨by decide +kernel, by decide +kernel, by decide +kernel⟩, by decide +kernel⟩
theorem kL_108 : Lk_ "DrownedNamesLaw" 108 mX6_sound 1 := ⟨(tb_in 583 (by decide +kernel) rfl), (tb_in 1 (by decide +kernel) rfl), (tb_in 586 (by decide +kernel) rfl), ⟨by decide +kernel, by decide +kernel, by decide +kernel⟩, by decide +kernel⟩
theorem kX6_223 : Lk_ RX6 223 mX0_weigh 0 := ⟨(tb_in 587 (by decide +kernel) rfl), (tb_in 7 (by decide +kernel) rfl), (tb_in 590 (by decide +kernel) rfl), ⟨by decide +kernel, by decide +kernel, by decide +kernel⟩, by decide +kernel⟩
theorem kX0_43 : Lk_ RX0 43 mX0_fitsAllSeen 1 := ⟨(tb_in 591 (by decide +kernel) rfl), (tb_in 7 (by decide +kernel) rfl), (tb_in 594 (by decide +kernel) rfl), ⟨by decide +kernel, by decide +kernel, by decide +kernel⟩, by decide +kernel⟩
theorem kX0_62 : Lk_ RX0 62 mX3_loseAlone 2 := ⟨(tb_in 595 (by decide +kernel) rfl), (tb_in 6 (by decide +kernel) rfl), (tb_in 551 (by decide +kernel) rfl), ⟨by decide +kernel, by decide +kernel, by decide +kernel⟩, by decide +kernel⟩
theorem kL_112 : Lk_ "DrownedNamesLaw" 112 mX6_press 0 := ⟨(tb_in 596 (by decide +kernel) rfl), (tb_in 1 (by decide +kernel) rfl), (tb_in 599 (by decide +kernel) rfl), ⟨by decide +kernel, by decide +kernel, by decide +kernel⟩, by decide +kernel⟩
theorem kX6_232 : Lk_ RX6 232 mX0_shipToPress 0 := ⟨(tb_in 600 (by decide +kernel) rfl), (tb_in 7 (by decide +kernel) rfl), (tb_in 603 (by decide +kernel) rfl), ⟨by decide +kernel, by decide +kernel, by decide +kernel⟩, by decide +kernel⟩
theorem kX0_50 : Lk_ RX0 50 mX0_greatestGroup 1 := ⟨(tb_in 604 (by decide +kernel) rfl), (tb_in 7 (by decide +kernel) rfl), (tb_in 607 (by decide +kernel) rfl), ⟨by decide +kernel, by decide +kernel, by decide +kernel⟩, by decide +kernel⟩
theorem kX0_71 : Lk_ RX0 71 mJ7_fill_53178 2 := ⟨(tb_in 608 (by decide +kernel) rfl), (tb_in 15 (by decide +kernel) rfl), (tb_in 516 (by decide +kernel) rfl), ⟨by decide +kernel, by decide +kernel, by decide +kernel⟩, by decide +kernel⟩
theorem kL_116 : Lk_ "DrownedNamesLaw" 116 mX6_fair 2 := ⟨(tb_in 612 (by decide +kernel) rfl), (tb_in 1 (by decide +kernel) rfl), (tb_in 615 (by decide +kernel) rfl), ⟨by decide +kernel, by decide +kernel, by decide +kernel⟩, by decide +kernel⟩
theorem kX6_237 : Lk_ RX6 237 mX6_partOfFraction 3 := ⟨(tb_in 617 (by decide +kernel) rfl), (tb_in 1 (by decide +kernel) rfl), (tb_in 619 (by decide +kernel) rfl), ⟨by decide +kernel, by decide +kernel, by decide +kernel⟩, by decide +kernel⟩
theorem kL_121 : Lk_ "DrownedNamesLaw" 121 mX6_storm 3 := ⟨(tb_in 620 (by decide +kernel) rfl), (tb_in 1 (by decide +kernel) rfl), (tb_in 623 (by decide +kernel) rfl), ⟨by decide +kernel, by decide +kernel, by decide +kernel⟩, by decide +kernel⟩
theorem kX6_241 : Lk_ RX6 241 mX1_chancesOf 1 := ⟨(tb_in 624 (by decide +kernel) rfl), (tb_in 5 (by decide +kernel) rfl), (tb_in 627 (by decide +kernel) rfl), ⟨by decide +kernel, by decide +kernel, by decide +kernel⟩, by decide +kernel⟩
theorem kX6_244 : Lk_ RX6 244 mX3_loseTogether 1 := ⟨(tb_in 628 (by decide +kernel) rfl), (tb_in 6 (by decide +kernel) rfl), (tb_in 631 (by decide +kernel) rfl), ⟨by decide +kernel, by decide +kernel, by decide +kernel⟩, by decide +kernel⟩
theorem kL_126 : Lk_ "DrownedNamesLaw" 126 mX6_years 4 := ⟨(tb_in 632 (by decide +kernel) rfl), (tb_in 1 (by decide +kernel) rfl), (tb_in 635 (by decide +kernel) rfl), ⟨by decide +kernel, by decide +kernel, by decide +kernel⟩, by decide +kernel⟩
theorem kX6_247 : Lk_ RX6 247 mX3_followLots 2 := ⟨(tb_in 636 (by decide +kernel) rfl), (tb_in 6 (by decide +kernel) rfl), (tb_in 639 (by decide +kernel) rfl), ⟨by decide +kernel, by decide +kernel, by decide +kernel⟩, by decide +kernel⟩
theorem kL_131 : Lk_ "DrownedNamesLaw" 131 mX6_sheet 3 := ⟨(tb_in 641 (by decide +kernel) rfl), (tb_in 1 (by decide +kernel) rfl), (tb_in 644 (by decide +kernel) rfl), ⟨by decide +kernel, by decide +kernel, by decide +kernel⟩, by decide +kernel⟩
theorem kX6_251 : Lk_ RX6 251 mX6_isForm 1 := ⟨(tb_in 645 (by decide +kernel) rfl), (tb_in 1 (by decide +kernel) rfl), (tb_in 647 (by decide +kernel) rfl), ⟨by decide +kernel, by decide +kernel, by decide +kernel⟩, by decide +kernel⟩
theorem kX6_254 : Lk_ RX6 254 mX4_renew 2 := ⟨(tb_in 648 (by decide +kernel) rfl), (tb_in 8 (by decide +kernel) rfl), (tb_in 651 (by decide +kernel) rfl), ⟨by decide +kernel, by decide +kernel, by decide +kernel⟩, by decide +kernel⟩
theorem kX4_19 : Lk_ RX4 19 mJ7_fill_53178 2 := ⟨(tb_in 652 (by decide +kernel) rfl), (tb_in 15 (by decide +kernel) rfl), (tb_in 516 (by decide +kernel) rfl), ⟨by decide +kernel, by decide +kernel, by decide +kernel⟩, by decide +kernel⟩
theorem kL_136 : Lk_ "DrownedNamesLaw" 136 mX6_lose 1 := ⟨(tb_in 653 (by decide +kernel) rfl), (tb_in 1 (by decide +kernel) rfl), (tb_in 656 (by decide +kernel) rfl), ⟨by decide +kernel, by decide +kernel, by decide +kernel⟩, by decide +kernel⟩
theorem kL_140 : Lk_ "DrownedNamesLaw" 140 mX6_lay 4 := ⟨(tb_in 657 (by decide +kernel) rfl), (tb_in 1 (by decide +kernel) rfl), (tb_in 660 (by decide +kernel) rfl), ⟨by decide +kernel, by decide +kernel, by decide +kernel⟩, by decide +kernel⟩
theorem kX6_257 : Lk_ RX6 257 mX4_findingAt 2 := ⟨(tb_in 661 (by decide +kernel) rfl), (tb_in 8 (by decide +kernel) rfl), (tb_in 664 (by decide +kernel) rfl), ⟨by decide +kernel, by decide +kernel, by decide +kernel⟩, by decide +kernel⟩
theorem kX6_260 : Lk_ RX6 260 mX4_put 2 := ⟨(tb_in 665 (by decide +kernel) rfl), (tb_in 8 (by decide +kernel) rfl), (tb_in 668 (by decide +kernel) rfl), ⟨by decide +kernel, by decide +kernel, by decide +kernel⟩, by decide +kernel⟩
theorem kX4_32 : Lk_ RX4 32 mX4_narrowed 1 := ⟨(tb_in 669 (by decide +kernel) rfl), (tb_in 8 (by decide +kernel) rfl), (tb_in 672 (by decide +kernel) rfl), ⟨by decide +kernel, by decide +kernel, by decide +kernel⟩, by decide +kernel⟩
theorem kL_144 : Lk_ "DrownedNamesLaw" 144 mX6_get 3 := ⟨(tb_in 673 (by decide +kernel) rfl), (tb_in 1 (by decide +kernel) rfl), (tb_in 676 (by decide +kernel) rfl), ⟨by decide +kernel, by decide +kernel, by decide +kernel⟩, by decide +kernel⟩
theorem kL_148 : Lk_ "DrownedNamesLaw" 148 mX6_copy 5 := ⟨(tb_in 678 (by decide +kernel) rfl), (tb_in 1 (by decide +kernel) rfl), (tb_in 681 (by decide +kernel) rfl), ⟨by decide +kernel, by decide +kernel, by decide +kernel⟩, by decide +kernel⟩
theorem kX6_267 : Lk_ RX6 267 mX4_hasRange 2 := ⟨(tb_in 682 (by decide +kernel) rfl), (tb_in 8 (by decide +kernel) rfl), (tb_in 685 (by decide +kernel) rfl), ⟨by decide +kernel, by decide +kernel, by decide +kernel⟩, by decide +kernel⟩
theorem kL_153 : Lk_ "DrownedNamesLaw" 153 mX6_write 2 := ⟨(tb_in 687 (by decide +kernel) rfl), (tb_in 1 (by decide +kernel) rfl), (tb_in 690 (by decide +kernel) rfl), ⟨by decide +kernel, by decide +kernel, by decide +kernel⟩, by decide +kernel⟩
theorem kL_157 : Lk_ "DrownedNamesLaw" 157 mX6_count 1 := ⟨(tb_in 692 (by decide +kernel) rfl), (tb_in 1 (by decide +kernel) rfl), (tb_in 695 (by decide +kernel) rfl), ⟨by decide +kernel, by decide +kernel, by decide +kernel⟩, by decide +kernel⟩
theorem kL_161 : Lk_ "DrownedNamesLaw" 161 mX6_digest 0 := ⟨(tb_in 696 (by decide +kernel) rfl), (tb_in 1 (by decide +kernel) rfl), (tb_in 699 (by decide +kernel) rfl), ⟨by decide +kernel, by decide +kernel, by decide +kernel⟩, by decide +kernel⟩
theorem kX6_291 : Lk_ RX6 291 mX6_count 1 := ⟨(tb_in 702 (by decide +kernel) rfl), (tb_in 1 (by decide +kernel) rfl), (tb_in 695 (by decide +kernel) rfl), ⟨by decide +kernel, by decide +kernel, by decide +kernel⟩, by decide +kernel⟩
theorem kX6_294 : Lk_ RX6 294 mX6_fault 1 := ⟨(tb_in 703 (by decide +kernel) rfl), (tb_in 1 (by decide +kernel) rfl), (tb_in 416 (by decide +kernel) rfl), ⟨by decide +kernel, by decide +kernel, by decide +kernel⟩, by decide +kernel⟩
theorem kX6_297 : Lk_ RX6 297 mX6_withShip 2 := ⟨(tb_in 704 (by decide +kernel) rfl), (tb_in 1 (by decide +kernel) rfl), (tb_in 707 (by decide +kernel) rfl), ⟨by decide +kernel, by decide +kernel, by decide +kernel⟩, by decide +kernel⟩
theorem kX6_322 : Lk_ RX6 322 mX6_ship 2 := ⟨(tb_in 708 (by decide +kernel) rfl), (tb_in 1 (by decide +kernel) rfl), (tb_in 421 (by decide +kernel) rfl), ⟨by decide +kernel, by decide +kernel, by decide +kernel⟩, by decide +kernel⟩
theorem kX6_325 : Lk_ RX6 325 mX6_unborne 1 := ⟨(tb_in 709 (by decide +kernel) rfl), (tb_in 1 (by decide +kernel) rfl), (tb_in 498 (by decide +kernel) rfl), ⟨by decide +kernel, by decide +kernel, by decide +kernel⟩, by decide +kernel⟩
theorem kX6_328 : Lk_ RX6 328 mX6_borne 2 := ⟨(tb_in 710 (by decide +kernel) rfl), (tb_in 1 (by decide +kernel) rfl), (tb_in 490 (by decide +kernel) rfl), ⟨by decide +kernel, by decide +kernel, by decide +kernel⟩, by decide +kernel⟩
theorem kX6_331 : Lk_ RX6 331 mX6_paid 2 := ⟨(tb_in 711 (by decide +kernel) rfl), (tb_in 1 (by decide +kernel) rfl), (tb_in 539 (by decide +kernel) rfl), ⟨by decide +kernel, by decide +kernel, by decide +kernel⟩, by decide +kernel⟩
theorem kX6_333 : Lk_ RX6 333 mX6_take 1 := ⟨(tb_in 712 (by decide +kernel) rfl), (tb_in 1 (by decide +kernel) rfl), (tb_in 555 (by decide +kernel) rfl), ⟨by decide +kernel, by decide +kernel, by decide +kernel⟩, by decide +kernel⟩
theorem kX6_301 : Lk_ RX6 301 mX6_withName 2 := ⟨(tb_in 713 (by decide +kernel) rfl), (tb_in 1 (by decide +kernel) rfl), (tb_in 716 (by decide +kernel) rfl), ⟨by decide +kernel, by decide +kernel, by decide +kernel⟩, by decide +kernel⟩
theorem kX6_336 : Lk_ RX6 336 mX6_name 2 := ⟨(tb_in 717 (by decide +kernel) rfl), (tb_in 1 (by decide +kernel) rfl), (tb_in 426 (by decide +kernel) rfl), ⟨by decide +kernel, by decide +kernel, by decide +kernel⟩, by decide +kernel⟩
theorem kX6_339 : Lk_ RX6 339 mX6_bearer 2 := ⟨(tb_in 718 (by decide +kernel) rfl), (tb_in 1 (by decide +kernel) rfl), (tb_in 482 (by decide +kernel) rfl), ⟨by decide +kernel, by decide +kernel, by decide +kernel⟩, by decide +kernel⟩
theorem kX6_341 : Lk_ RX6 341 mX6_left 2 := ⟨(tb_in 719 (by decide +kernel) rfl), (tb_in 1 (by decide +kernel) rfl), (tb_in 502 (by decide +kernel) rfl), ⟨by decide +kernel, by decide +kernel, by decide +kernel⟩, by decide +kernel⟩
theorem kX6_343 : Lk_ RX6 343 mX6_strike 2 := ⟨(tb_in 720 (by decide +kernel) rfl), (tb_in 1 (by decide +kernel) rfl), (tb_in 569 (by decide +kernel) rfl), ⟨by decide +kernel, by decide +kernel, by decide +kernel⟩, by decide +kernel⟩
theorem kX6_346 : Lk_ RX6 346 mX6_fair 2 := ⟨(tb_in 721 (by decide +kernel) rfl), (tb_in 1 (by decide +kernel) rfl), (tb_in 615 (by decide +kernel) rfl), ⟨by decide +kernel, by decide +kernel, by decide +kernel⟩, by decide +kernel⟩
theorem kX6_350 : Lk_ RX6 350 mX6_storm 3 := ⟨(tb_in 722 (by decide +kernel) rfl), (tb_in 1 (by decide +kernel) rfl), (tb_in 623 (by decide +kernel) rfl), ⟨by decide +kernel, by decide +kernel, by decide +kernel⟩, by decide +kernel⟩
theorem kX6_353 : Lk_ RX6 353 mX6_years 4 := ⟨(tb_in 723 (by decide +kernel) rfl), (tb_in 1 (by decide +kernel) rfl), (tb_in 635 (by decide +kernel) rfl), ⟨by decide +kernel, by decide +kernel, by decide +kernel⟩, by decide +kernel⟩
theorem kX6_304 : Lk_ RX6 304 mX6_line 2 := ⟨(tb_in 724 (by decide +kernel) rfl), (tb_in 1 (by decide +kernel) rfl), (tb_in 435 (by decide +kernel) rfl), ⟨by decide +kernel, by decide +kernel, by decide +kernel⟩, by decide +kernel⟩
theorem kX6_307 : Lk_ RX6 307 mX6_withYear 2 := ⟨(tb_in 725 (by decide +kernel) rfl), (tb_in 1 (by decide +kernel) rfl), (tb_in 728 (by decide +kernel) rfl), ⟨by decide +kernel, by decide +kernel, by decide +kernel⟩, by decide +kernel⟩
theorem kX6_357 : Lk_ RX6 357 mX6_behind 2 := ⟨(tb_in 729 (by decide +kernel) rfl), (tb_in 1 (by decide +kernel) rfl), (tb_in 535 (by decide +kernel) rfl), ⟨by decide +kernel, by decide +kernel, by decide +kernel⟩, by decide +kernel⟩
theorem kX6_310 : Lk_ RX6 310 mX6_first 1 := ⟨(tb_in 730 (by decide +kernel) rfl), (tb_in 1 (by decide +kernel) rfl), (tb_in 543 (by decide +kernel) rfl), ⟨by decide +kernel, by decide +kernel, by decide +kernel⟩, by decide +kernel⟩
theorem kX6_313 : Lk_ RX6 313 mX6_safe 0 := ⟨(tb_in 731 (by decide +kernel) rfl), (tb_in 1 (by decide +kernel) rfl), (tb_in 547 (by decide +kernel) rfl), ⟨by decide +kernel, by decide +kernel, by decide +kernel⟩, by decide +kernel⟩
theorem kX6_316 : Lk_ RX6 316 mX6_sound 1 := ⟨(tb_in 732 (by decide +kernel) rfl), (tb_in 1 (by decide +kernel) rfl), (tb_in 586 (by decide +kernel) rfl), ⟨by decide +kernel, by decide +kernel, by decide +kernel⟩, by decide +kernel⟩
theorem kX6_319 : Lk_ RX6 319 mX6_press 0 := ⟨(tb_in 733 (by decide +kernel) rfl), (tb_in 1 (by decide +kernel) rfl), (tb_in 599 (by decide +kernel) rfl), ⟨by decide +kernel, by decide +kernel, by decide +kernel⟩, by decide +kernel⟩
theorem kL_135 : Lk_ "DrownedNamesLaw" 135 mX7_sheet 3 := ⟨(tb_in 819 (by decide +kernel) rfl), (tb_in 9 (by decide +kernel) rfl), (tb_in 822 (by decide +kernel) rfl), ⟨by decide +kernel, by decide +kernel, by decide +kernel⟩, by decide +kernel⟩
theorem kX7_70 : Lk_ RX7 70 mX7_isSheet 1 := ⟨(tb_in 823 (by decide +kernel) rfl), (tb_in 9 (by decide +kernel) rfl), (tb_in 825 (by decide +kernel) rfl), ⟨by decide +kernel, by decide +kernel, by decide +kernel⟩, by decide +kernel⟩
theorem kX7_61 : Lk_ RX7 61 mX7_in 3 := ⟨(tb_in 827 (by decide +kernel) rfl), (tb_in 9 (by decide +kernel) rfl), (tb_in 829 (by decide +kernel) rfl), ⟨by decide +kernel, by decide +kernel, by decide +kernel⟩, by decide +kernel⟩
theorem kX7_76 : Lk_ RX7 76 mX7_finds 1 := ⟨(tb_in 831 (by decide +kernel) rfl), (tb_in 9 (by decide +kernel) rfl), (tb_in 834 (by decide +kernel) rfl), ⟨by decide +kernel, by decide +kernel, by decide +kernel⟩, by decide +kernel⟩
theorem kL_139 : Lk_ "DrownedNamesLaw" 139 mX7_lose 1 := ⟨(tb_in 835 (by decide +kernel) rfl), (tb_in 9 (by decide +kernel) rfl), (tb_in 838 (by decide +kernel) rfl), ⟨by decide +kernel, by decide +kernel, by decide +kernel⟩, by decide +kernel⟩
theorem kL_143 : Lk_ "DrownedNamesLaw" 143 mX7_lay 4 := ⟨(tb_in 839 (by decide +kernel) rfl), (tb_in 9 (by decide +kernel) rfl), (tb_in 842 (by decide +kernel) rfl), ⟨by decide +kernel, by decide +kernel, by decide +kernel⟩, by decide +kernel⟩
theorem kX7_80 : Lk_ RX7 80 mX7_lacks 3 := ⟨(tb_in 843 (by decide +kernel) rfl), (tb_in 9 (by decide +kernel) rfl), (tb_in 846 (by decide +kernel) rfl), ⟨by decide +kernel, by decide +kernel, by decide +kernel⟩, by decide +kernel⟩
theorem kX7_84 : Lk_ RX7 84 mX7_cut 2 := ⟨(tb_in 847 (by decide +kernel) rfl), (tb_in 9 (by decide +kernel) rfl), (tb_in 849 (by decide +kernel) rfl), ⟨by decide +kernel, by decide +kernel, by decide +kernel⟩, by decide +kernel⟩
theorem kL_147 : Lk_ "DrownedNamesLaw" 147 mX7_get 3 := ⟨(tb_in 850 (by decide +kernel) rfl), (tb_in 9 (by decide +kernel) rfl), (tb_in 853 (by decide +kernel) rfl), ⟨by decide +kernel, by decide +kernel, by decide +kernel⟩, by decide +kernel⟩
theorem kL_152 : Lk_ "DrownedNamesLaw" 152 mX7_copy 5 := ⟨(tb_in 855 (by decide +kernel) rfl), (tb_in 9 (by decide +kernel) rfl), (tb_in 858 (by decide +kernel) rfl), ⟨by decide +kernel, by decide +kernel, by decide +kernel⟩, by decide +kernel⟩
theorem kL_17 : Lk_ "DrownedNamesLaw" 17 mX7_type 2 := ⟨(tb_in 859 (by decide +kernel) rfl), (tb_in 9 (by decide +kernel) rfl), (tb_in 862 (by decide +kernel) rfl), ⟨by decide +kernel, by decide +kernel, by decide +kernel⟩, by decide +kernel⟩
theorem kX7_89 : Lk_ RX7 89 mX7_isText 1 := ⟨(tb_in 863 (by decide +kernel) rfl), (tb_in 9 (by decide +kernel) rfl), (tb_in 865 (by decide +kernel) rfl), ⟨by decide +kernel, by decide +kernel, by decide +kernel⟩, by decide +kernel⟩
theorem kL_22 : Lk_ "DrownedNamesLaw" 22 mX7_wipe 1 := ⟨(tb_in 867 (by decide +kernel) rfl), (tb_in 9 (by decide +kernel) rfl), (tb_in 870 (by decide +kernel) rfl), ⟨by decide +kernel, by decide +kernel, by decide +kernel⟩, by decide +kernel⟩
theorem kL_26 : Lk_ "DrownedNamesLaw" 26 mX7_undo 1 := ⟨(tb_in 871 (by decide +kernel) rfl), (tb_in 9 (by decide +kernel) rfl), (tb_in 874 (by decide +kernel) rfl), ⟨by decide +kernel, by decide +kernel, by decide +kernel⟩, by decide +kernel⟩
theorem kL_30 : Lk_ "DrownedNamesLaw" 30 mX7_fault 1 := ⟨(tb_in 875 (by decide +kernel) rfl), (tb_in 9 (by decide +kernel) rfl), (tb_in 878 (by decide +kernel) rfl), ⟨by decide +kernel, by decide +kernel, by decide +kernel⟩, by decide +kernel⟩
theorem kX7_119 : Lk_ RX7 119 mX7_readsText 1 := ⟨(tb_in 879 (by decide +kernel) rfl), (tb_in 9 (by decide +kernel) rfl), (tb_in 882 (by decide +kernel) rfl), ⟨by decide +kernel, by decide +kernel, by decide +kernel⟩, by decide +kernel⟩
theorem kX7_116 : Lk_ RX7 116 mX7_readsThing 1 := ⟨(tb_in 883 (by decide +kernel) rfl), (tb_in 9 (by decide +kernel) rfl), (tb_in 886 (by decide +kernel) rfl), ⟨by decide +kernel, by decide +kernel, by decide +kernel⟩, by decide +kernel⟩
theorem kX7_106 : Lk_ RX7 106 mX7_readsShip 0 := ⟨(tb_in 887 (by decide +kernel) rfl), (tb_in 9 (by decide +kernel) rfl), (tb_in 890 (by decide +kernel) rfl), ⟨by decide +kernel, by decide +kernel, by decide +kernel⟩, by decide +kernel⟩
theorem kX7_103 : Lk_ RX7 103 mX7_twoFigures 2 := ⟨(tb_in 891 (by decide +kernel) rfl), (tb_in 9 (by decide +kernel) rfl), (tb_in 894 (by decide +kernel) rfl), ⟨by decide +kernel, by decide +kernel, by decide +kernel⟩, by decide +kernel⟩
theorem kX7_97 : Lk_ RX7 97 mX7_passes 3 := ⟨(tb_in 895 (by decide +kernel) rfl), (tb_in 9 (by decide +kernel) rfl), (tb_in 898 (by decide +kernel) rfl), ⟨by decide +kernel, by decide +kernel, by decide +kernel⟩, by decide +kernel⟩
theorem kX7_100 : Lk_ RX7 100 mX7_units 2 := ⟨(tb_in 899 (by decide +kernel) rfl), (tb_in 9 (by decide +kernel) rfl), (tb_in 902 (by decide +kernel) rfl), ⟨by decide +kernel, by decide +kernel, by decide +kernel⟩, by decide +kernel⟩
theorem kX7_110 : Lk_ RX7 110 mX7_readsName 0 := ⟨(tb_in 903 (by decide +kernel) rfl), (tb_in 9 (by decide +kernel) rfl), (tb_in 906 (by decide +kernel) rfl), ⟨by decide +kernel, by decide +kernel, by decide +kernel⟩, by decide +kernel⟩
theorem kX7_113 : Lk_ RX7 113 mX7_readsLine 0 := ⟨(tb_in 907 (by decide +kernel) rfl), (tb_in 9 (by decide +kernel) rfl), (tb_in 910 (by decide +kernel) rfl), ⟨by decide +kernel, by decide +kernel, by decide +kernel⟩, by decide +kernel⟩
theorem kL_34 : Lk_ "DrownedNamesLaw" 34 mX7_ship 2 := ⟨(tb_in 911 (by decide +kernel) rfl), (tb_in 9 (by decide +kernel) rfl), (tb_in 914 (by decide +kernel) rfl), ⟨by decide +kernel, by decide +kernel, by decide +kernel⟩, by decide +kernel⟩
theorem kX7_124 : Lk_ RX7 124 mX7_reads 0 := ⟨(tb_in 915 (by decide +kernel) rfl), (tb_in 9 (by decide +kernel) rfl), (tb_in 918 (by decide +kernel) rfl), ⟨by decide +kernel, by decide +kernel, by decide +kernel⟩, by decide +kernel⟩
theorem kX7_127 : Lk_ RX7 127 mX7_isShip 1 := ⟨(tb_in 919 (by decide +kernel) rfl), (tb_in 9 (by decide +kernel) rfl), (tb_in 922 (by decide +kernel) rfl), ⟨by decide +kernel, by decide +kernel, by decide +kernel⟩, by decide +kernel⟩
theorem kX7_130 : Lk_ RX7 130 mX7_isTwo 1 := ⟨(tb_in 923 (by decide +kernel) rfl), (tb_in 9 (by decide +kernel) rfl), (tb_in 925 (by decide +kernel) rfl), ⟨by decide +kernel, by decide +kernel, by decide +kernel⟩, by decide +kernel⟩
theorem kL_38 : Lk_ "DrownedNamesLaw" 38 mX7_name 2 := ⟨(tb_in 926 (by decide +kernel) rfl), (tb_in 9 (by decide +kernel) rfl), (tb_in 929 (by decide +kernel) rfl), ⟨by decide +kernel, by decide +kernel, by decide +kernel⟩, by decide +kernel⟩
theorem kX7_133 : Lk_ RX7 133 mX7_isName 1 := ⟨(tb_in 930 (by decide +kernel) rfl), (tb_in 9 (by decide +kernel) rfl), (tb_in 933 (by decide +kernel) rfl), ⟨by decide +kernel, by decide +kernel, by decide +kernel⟩, by decide +kernel⟩
theorem kL_46 : Lk_ "DrownedNamesLaw" 46 mX7_struck 1 := ⟨(tb_in 934 (by decide +kernel) rfl), (tb_in 9 (by decide +kernel) rfl), (tb_in 937 (by decide +kernel) rfl), ⟨by decide +kernel, by decide +kernel, by decide +kernel⟩, by decide +kernel⟩
theorem kL_42 : Lk_ "DrownedNamesLaw" 42 mX7_line 2 := ⟨(tb_in 938 (by decide +kernel) rfl), (tb_in 9 (by decide +kernel) rfl), (tb_in 941 (by decide +kernel) rfl), ⟨by decide +kernel, by decide +kernel, by decide +kernel⟩, by decide +kernel⟩
theorem kX7_149 : Lk_ RX7 149 mX7_lineOf 2 := ⟨(tb_in 942 (by decide +kernel) rfl), (tb_in 9 (by decide +kernel) rfl), (tb_in 945 (by decide +kernel) rfl), ⟨by decide +kernel, by decide +kernel, by decide +kernel⟩, by decide +kernel⟩
theorem kX7_146 : Lk_ RX7 146 mX7_dueOf 1 := ⟨(tb_in 946 (by decide +kernel) rfl), (tb_in 9 (by decide +kernel) rfl), (tb_in 949 (by decide +kernel) rfl), ⟨by decide +kernel, by decide +kernel, by decide +kernel⟩, by decide +kernel⟩
theorem kX7_143 : Lk_ RX7 143 mX7_stands 1 := ⟨(tb_in 950 (by decide +kernel) rfl), (tb_in 9 (by decide +kernel) rfl), (tb_in 953 (by decide +kernel) rfl), ⟨by decide +kernel, by decide +kernel, by decide +kernel⟩, by decide +kernel⟩
theorem kX7_139 : Lk_ RX7 139 mX7_isIn 2 := ⟨(tb_in 954 (by decide +kernel) rfl), (tb_in 9 (by decide +kernel) rfl), (tb_in 956 (by decide +kernel) rfl), ⟨by decide +kernel, by decide +kernel, by decide +kernel⟩, by decide +kernel⟩
theorem kL_63 : Lk_ "DrownedNamesLaw" 63 mX7_bearer 2 := ⟨(tb_in 957 (by decide +kernel) rfl), (tb_in 9 (by decide +kernel) rfl), (tb_in 960 (by decide +kernel) rfl), ⟨by decide +kernel, by decide +kernel, by decide +kernel⟩, by decide +kernel⟩
theorem kX7_158 : Lk_ RX7 158 mX7_bearerBy 2 := ⟨(tb_in 961 (by decide +kernel) rfl), (tb_in 9 (by decide +kernel) rfl), (tb_in 964 (by decide +kernel) rfl), ⟨by decide +kernel, by decide +kernel, by decide +kernel⟩, by decide +kernel⟩
theorem kX7_152 : Lk_ RX7 152 mX7_bearerOf 1 := ⟨(tb_in 965 (by decide +kernel) rfl), (tb_in 9 (by decide +kernel) rfl), (tb_in 968 (by decide +kernel) rfl), ⟨by decide +kernel, by decide +kernel, by decide +kernel⟩, by decide +kernel⟩
theorem kX7_155 : Lk_ RX7 155 mX7_bearersOf 1 := ⟨(tb_in 969 (by decide +kernel) rfl), (tb_in 9 (by decide +kernel) rfl), (tb_in 972 (by decide +kernel) rfl), ⟨by decide +kernel, by decide +kernel, by decide +kernel⟩, by decide +kernel⟩
theorem kL_67 : Lk_ "DrownedNamesLaw" 67 mX7_borne 2 := ⟨(tb_in 973 (by decide +kernel) rfl), (tb_in 9 (by decide +kernel) rfl), (tb_in 976 (by decide +kernel) rfl), ⟨by decide +kernel, by decide +kernel, by decide +kernel⟩, by decide +kernel⟩
theorem kX7_161 : Lk_ RX7 161 mX7_borneOf 2 := ⟨(tb_in 977 (by decide +kernel) rfl), (tb_in 9 (by decide +kernel) rfl), (tb_in 980 (by decide +kernel) rfl), ⟨by decide +kernel, by decide +kernel, by decide +kernel⟩, by decide +kernel⟩
theorem kL_71 : Lk_ "DrownedNamesLaw" 71 mX7_unborne 1 := ⟨(tb_in 981 (by decide +kernel) rfl), (tb_in 9 (by decide +kernel) rfl), (tb_in 984 (by decide +kernel) rfl), ⟨by decide +kernel, by decide +kernel, by decide +kernel⟩, by decide +kernel⟩
theorem kL_50 : Lk_ "DrownedNamesLaw" 50 mX7_loss 2 := ⟨(tb_in 985 (by decide +kernel) rfl), (tb_in 9 (by decide +kernel) rfl), (tb_in 988 (by decide +kernel) rfl), ⟨by decide +kernel, by decide +kernel, by decide +kernel⟩, by decide +kernel⟩
theorem kX7_164 : Lk_ RX7 164 mX7_isYear 1 := ⟨(tb_in 989 (by decide +kernel) rfl), (tb_in 9 (by decide +kernel) rfl), (tb_in 991 (by decide +kernel) rfl), ⟨by decide +kernel, by decide +kernel, by decide +kernel⟩, by decide +kernel⟩
theorem kL_55 : Lk_ "DrownedNamesLaw" 55 mX7_back 0 := ⟨(tb_in 994 (by decide +kernel) rfl), (tb_in 9 (by decide +kernel) rfl), (tb_in 997 (by decide +kernel) rfl), ⟨by decide +kernel, by decide +kernel, by decide +kernel⟩, by decide +kernel⟩
theorem kL_59 : Lk_ "DrownedNamesLaw" 59 mX7_read 1 := ⟨(tb_in 998 (by decide +kernel) rfl), (tb_in 9 (by decide +kernel) rfl), (tb_in 1001 (by decide +kernel) rfl), ⟨by decide +kernel, by decide +kernel, by decide +kernel⟩, by decide +kernel⟩
theorem kX7_172 : Lk_ RX7 172 mX7_loss 2 := ⟨(tb_in 1002 (by decide +kernel) rfl), (tb_in 9 (by decide +kernel) rfl), (tb_in 988 (by decide +kernel) rfl), ⟨by decide +kernel, by decide +kernel, by decide +kernel⟩, by decide +kernel⟩
theorem kL_75 : Lk_ "DrownedNamesLaw" 75 mX7_left 2 := ⟨(tb_in 1003 (by decide +kernel) rfl), (tb_in 9 (by decide +kernel) rfl), (tb_in 1006 (by decide +kernel) rfl), ⟨by decide +kernel, by decide +kernel, by decide +kernel⟩, by decide +kernel⟩
theorem kX7_200 : Lk_ RX7 200 mX7_leftOf 2 := ⟨(tb_in 1007 (by decide +kernel) rfl), (tb_in 9 (by decide +kernel) rfl), (tb_in 1010 (by decide +kernel) rfl), ⟨by decide +kernel, by decide +kernel, by decide +kernel⟩, by decide +kernel⟩
theorem kX7_196 : Lk_ RX7 196 mX7_lives 1 := ⟨(tb_in 1011 (by decide +kernel) rfl), (tb_in 9 (by decide +kernel) rfl), (tb_in 1014 (by decide +kernel) rfl), ⟨by decide +kernel, by decide +kernel, by decide +kernel⟩, by decide +kernel⟩
theorem kX7_189 : Lk_ RX7 189 mX7_begins 0 := ⟨(tb_in 1015 (by decide +kernel) rfl), (tb_in 9 (by decide +kernel) rfl), (tb_in 1018 (by decide +kernel) rfl), ⟨by decide +kernel, by decide +kernel, by decide +kernel⟩, by decide +kernel⟩
theorem kX7_192 : Lk_ RX7 192 mX7_goes 2 := ⟨(tb_in 1019 (by decide +kernel) rfl), (tb_in 9 (by decide +kernel) rfl), (tb_in 1022 (by decide +kernel) rfl), ⟨by decide +kernel, by decide +kernel, by decide +kernel⟩, by decide +kernel⟩
theorem kX7_186 : Lk_ RX7 186 mX7_lesser 2 := ⟨(tb_in 1023 (by decide +kernel) rfl), (tb_in 9 (by decide +kernel) rfl), (tb_in 1025 (by decide +kernel) rfl), ⟨by decide +kernel, by decide +kernel, by decide +kernel⟩, by decide +kernel⟩
theorem kL_79 : Lk_ "DrownedNamesLaw" 79 mX7_behind 2 := ⟨(tb_in 1026 (by decide +kernel) rfl), (tb_in 9 (by decide +kernel) rfl), (tb_in 1029 (by decide +kernel) rfl), ⟨by decide +kernel, by decide +kernel, by decide +kernel⟩, by decide +kernel⟩
theorem kX7_203 : Lk_ RX7 203 mX7_behindOf 2 := ⟨(tb_in 1030 (by decide +kernel) rfl), (tb_in 9 (by decide +kernel) rfl), (tb_in 1033 (by decide +kernel) rfl), ⟨by decide +kernel, by decide +kernel, by decide +kernel⟩, by decide +kernel⟩
theorem kL_83 : Lk_ "DrownedNamesLaw" 83 mX7_paid 2 := ⟨(tb_in 1034 (by decide +kernel) rfl), (tb_in 9 (by decide +kernel) rfl), (tb_in 1037 (by decide +kernel) rfl), ⟨by decide +kernel, by decide +kernel, by decide +kernel⟩, by decide +kernel⟩
theorem kX7_206 : Lk_ RX7 206 mX7_paidOf 2 := ⟨(tb_in 1038 (by decide +kernel) rfl), (tb_in 9 (by decide +kernel) rfl), (tb_in 1041 (by decide +kernel) rfl), ⟨by decide +kernel, by decide +kernel, by decide +kernel⟩, by decide +kernel⟩
theorem kL_87 : Lk_ "DrownedNamesLaw" 87 mX7_first 1 := ⟨(tb_in 1042 (by decide +kernel) rfl), (tb_in 9 (by decide +kernel) rfl), (tb_in 1045 (by decide +kernel) rfl), ⟨by decide +kernel, by decide +kernel, by decide +kernel⟩, by decide +kernel⟩
theorem kX7_209 : Lk_ RX7 209 mX7_firstOf 1 := ⟨(tb_in 1046 (by decide +kernel) rfl), (tb_in 9 (by decide +kernel) rfl), (tb_in 1049 (by decide +kernel) rfl), ⟨by decide +kernel, by decide +kernel, by decide +kernel⟩, by decide +kernel⟩
theorem kL_91 : Lk_ "DrownedNamesLaw" 91 mX7_safe 0 := ⟨(tb_in 1050 (by decide +kernel) rfl), (tb_in 9 (by decide +kernel) rfl), (tb_in 1053 (by decide +kernel) rfl), ⟨by decide +kernel, by decide +kernel, by decide +kernel⟩, by decide +kernel⟩
theorem kX7_215 : Lk_ RX7 215 mX7_safeNow 0 := ⟨(tb_in 1054 (by decide +kernel) rfl), (tb_in 9 (by decide +kernel) rfl), (tb_in 1057 (by decide +kernel) rfl), ⟨by decide +kernel, by decide +kernel, by decide +kernel⟩, by decide +kernel⟩
theorem kX7_212 : Lk_ RX7 212 mX7_alone 1 := ⟨(tb_in 1058 (by decide +kernel) rfl), (tb_in 9 (by decide +kernel) rfl), (tb_in 1061 (by decide +kernel) rfl), ⟨by decide +kernel, by decide +kernel, by decide +kernel⟩, by decide +kernel⟩
theorem kL_95 : Lk_ "DrownedNamesLaw" 95 mX7_take 1 := ⟨(tb_in 1062 (by decide +kernel) rfl), (tb_in 9 (by decide +kernel) rfl), (tb_in 1065 (by decide +kernel) rfl), ⟨by decide +kernel, by decide +kernel, by decide +kernel⟩, by decide +kernel⟩
theorem kX7_225 : Lk_ RX7 225 mX7_takeOf 1 := ⟨(tb_in 1066 (by decide +kernel) rfl), (tb_in 9 (by decide +kernel) rfl), (tb_in 1069 (by decide +kernel) rfl), ⟨by decide +kernel, by decide +kernel, by decide +kernel⟩, by decide +kernel⟩
theorem kX7_219 : Lk_ RX7 219 mX7_haveAll 1 := ⟨(tb_in 1070 (by decide +kernel) rfl), (tb_in 9 (by decide +kernel) rfl), (tb_in 1073 (by decide +kernel) rfl), ⟨by decide +kernel, by decide +kernel, by decide +kernel⟩, by decide +kernel⟩
theorem kX7_222 : Lk_ RX7 222 mX7_ones 1 := ⟨(tb_in 1074 (by decide +kernel) rfl), (tb_in 9 (by decide +kernel) rfl), (tb_in 1076 (by decide +kernel) rfl), ⟨by decide +kernel, by decide +kernel, by decide +kernel⟩, by decide +kernel⟩
theorem kL_99 : Lk_ "DrownedNamesLaw" 99 mX7_strike 2 := ⟨(tb_in 1077 (by decide +kernel) rfl), (tb_in 9 (by decide +kernel) rfl), (tb_in 1080 (by decide +kernel) rfl), ⟨by decide +kernel, by decide +kernel, by decide +kernel⟩, by decide +kernel⟩
theorem kX7_231 : Lk_ RX7 231 mX7_strikeOf 2 := ⟨(tb_in 1081 (by decide +kernel) rfl), (tb_in 9 (by decide +kernel) rfl), (tb_in 1084 (by decide +kernel) rfl), ⟨by decide +kernel, by decide +kernel, by decide +kernel⟩, by decide +kernel⟩
theorem kX7_228 : Lk_ RX7 228 mX7_borneAll 1 := ⟨(tb_in 1085 (by decide +kernel) rfl), (tb_in 9 (by decide +kernel) rfl), (tb_in 1088 (by decide +kernel) rfl), ⟨by decide +kernel, by decide +kernel, by decide +kernel⟩, by decide +kernel⟩
theorem kL_103 : Lk_ "DrownedNamesLaw" 103 mX7_seen 2 := ⟨(tb_in 1089 (by decide +kernel) rfl), (tb_in 9 (by decide +kernel) rfl), (tb_in 1092 (by decide +kernel) rfl), ⟨by decide +kernel, by decide +kernel, by decide +kernel⟩, by decide +kernel⟩
theorem kL_107 : Lk_ "DrownedNamesLaw" 107 mX7_forget 0 := ⟨(tb_in 1094 (by decide +kernel) rfl), (tb_in 9 (by decide +kernel) rfl), (tb_in 1097 (by decide +kernel) rfl), ⟨by decide +kernel, by decide +kernel, by decide +kernel⟩, by decide +kernel⟩
theorem kL_111 : Lk_ "DrownedNamesLaw" 111 mX7_sound 1 := ⟨(tb_in 1098 (by decide +kernel) rfl), (tb_in 9 (by decide +kernel) rfl), (tb_in 1101 (by decide +kernel) rfl), ⟨by decide +kernel, by decide +kernel, by decide +kernel⟩, by decide +kernel⟩
theorem kX7_242 : Lk_ RX7 242 mX7_soundOf 1 := ⟨(tb_in 1102 (by decide +kernel) rfl), (tb_in 9 (by decide +kernel) rfl), (tb_in 1105 (by decide +kernel) rfl), ⟨by decide +kernel, by decide +kernel, by decide +kernel⟩, by decide +kernel⟩
theorem kX7_239 : Lk_ RX7 239 mX7_isSeen 1 := ⟨(tb_in 1106 (by decide +kernel) rfl), (tb_in 9 (by decide +kernel) rfl), (tb_in 1109 (by decide +kernel) rfl), ⟨by decide +kernel, by decide +kernel, by decide +kernel⟩, by decide +kernel⟩
theorem kL_115 : Lk_ "DrownedNamesLaw" 115 mX7_press 0 := ⟨(tb_in 1110 (by decide +kernel) rfl), (tb_in 9 (by decide +kernel) rfl), (tb_in 1113 (by decide +kernel) rfl), ⟨by decide +kernel, by decide +kernel, by decide +kernel⟩, by decide +kernel⟩
theorem kX7_248 : Lk_ RX7 248 mX7_pressNow 0 := ⟨(tb_in 1114 (by decide +kernel) rfl), (tb_in 9 (by decide +kernel) rfl), (tb_in 1117 (by decide +kernel) rfl), ⟨by decide +kernel, by decide +kernel, by decide +kernel⟩, by decide +kernel⟩
theorem kX7_245 : Lk_ RX7 245 mX7_mostAlike 1 := ⟨(tb_in 1118 (by decide +kernel) rfl), (tb_in 9 (by decide +kernel) rfl), (tb_in 1121 (by decide +kernel) rfl), ⟨by decide +kernel, by decide +kernel, by decide +kernel⟩, by decide +kernel⟩
theorem kL_120 : Lk_ "DrownedNamesLaw" 120 mX7_fair 2 := ⟨(tb_in 1122 (by decide +kernel) rfl), (tb_in 9 (by decide +kernel) rfl), (tb_in 1125 (by decide +kernel) rfl), ⟨by decide +kernel, by decide +kernel, by decide +kernel⟩, by decide +kernel⟩
theorem kX7_257 : Lk_ RX7 257 mX7_fairOf 2 := ⟨(tb_in 1126 (by decide +kernel) rfl), (tb_in 9 (by decide +kernel) rfl), (tb_in 1129 (by decide +kernel) rfl), ⟨by decide +kernel, by decide +kernel, by decide +kernel⟩, by decide +kernel⟩
theorem kX7_253 : Lk_ RX7 253 mX7_part 3 := ⟨(tb_in 1131 (by decide +kernel) rfl), (tb_in 9 (by decide +kernel) rfl), (tb_in 1133 (by decide +kernel) rfl), ⟨by decide +kernel, by decide +kernel, by decide +kernel⟩, by decide +kernel⟩
theorem kX7_261 : Lk_ RX7 261 mX7_no 1 := ⟨(tb_in 1134 (by decide +kernel) rfl), (tb_in 9 (by decide +kernel) rfl), (tb_in 1136 (by decide +kernel) rfl), ⟨by decide +kernel, by decide +kernel, by decide +kernel⟩, by decide +kernel⟩
theorem kL_125 : Lk_ "DrownedNamesLaw" 125 mX7_storm 3 := ⟨(tb_in 1138 (by decide +kernel) rfl), (tb_in 9 (by decide +kernel) rfl), (tb_in 1141 (by decide +kernel) rfl), ⟨by decide +kernel, by decide +kernel, by decide +kernel⟩, by decide +kernel⟩
theorem kX7_267 : Lk_ RX7 267 mX7_stormOf 3 := ⟨(tb_in 1143 (by decide +kernel) rfl), (tb_in 9 (by decide +kernel) rfl), (tb_in 1146 (by decide +kernel) rfl), ⟨by decide +kernel, by decide +kernel, by decide +kernel⟩, by decide +kernel⟩
theorem kL_130 : Lk_ "DrownedNamesLaw" 130 mX7_years 4 := ⟨(tb_in 1147 (by decide +kernel) rfl), (tb_in 9 (by decide +kernel) rfl), (tb_in 1150 (by decide +kernel) rfl), ⟨by decide +kernel, by decide +kernel, by decide +kernel⟩, by decide +kernel⟩
theorem kX7_280 : Lk_ RX7 280 mX7_yearsOf 4 := ⟨(tb_in 1152 (by decide +kernel) rfl), (tb_in 9 (by decide +kernel) rfl), (tb_in 1155 (by decide +kernel) rfl), ⟨by decide +kernel, by decide +kernel, by decide +kernel⟩, by decide +kernel⟩
theorem kX7_275 : Lk_ RX7 275 mX7_lot 1 := ⟨(tb_in 1156 (by decide +kernel) rfl), (tb_in 9 (by decide +kernel) rfl), (tb_in 1159 (by decide +kernel) rfl), ⟨by decide +kernel, by decide +kernel, by decide +kernel⟩, by decide +kernel⟩
theorem kL_156 : Lk_ "DrownedNamesLaw" 156 mX7_write 2 := ⟨(tb_in 1161 (by decide +kernel) rfl), (tb_in 9 (by decide +kernel) rfl), (tb_in 1164 (by decide +kernel) rfl), ⟨by decide +kernel, by decide +kernel, by decide +kernel⟩, by decide +kernel⟩
theorem kL_160 : Lk_ "DrownedNamesLaw" 160 mX7_count 1 := ⟨(tb_in 1165 (by decide +kernel) rfl), (tb_in 9 (by decide +kernel) rfl), (tb_in 1168 (by decide +kernel) rfl), ⟨by decide +kernel, by decide +kernel, by decide +kernel⟩, by decide +kernel⟩
theorem kL_165 : Lk_ "DrownedNamesLaw" 165 mX7_digest 0 := ⟨(tb_in 1169 (by decide +kernel) rfl), (tb_in 9 (by decide +kernel) rfl), (tb_in 1172 (by decide +kernel) rfl), ⟨by decide +kernel, by decide +kernel, by decide +kernel⟩, by decide +kernel⟩
theorem kX7_294 : Lk_ RX7 294 mX7_count 1 := ⟨(tb_in 1175 (by decide +kernel) rfl), (tb_in 9 (by decide +kernel) rfl), (tb_in 1168 (by decide +kernel) rfl), ⟨by decide +kernel, by decide +kernel, by decide +kernel⟩, by decide +kernel⟩
theorem kX7_297 : Lk_ RX7 297 mX7_tellsShip 2 := ⟨(tb_in 1176 (by decide +kernel) rfl), (tb_in 9 (by decide +kernel) rfl), (tb_in 1179 (by decide +kernel) rfl), ⟨by decide +kernel, by decide +kernel, by decide +kernel⟩, by decide +kernel⟩
theorem kX7_286 : Lk_ RX7 286 mX7_borne 2 := ⟨(tb_in 1180 (by decide +kernel) rfl), (tb_in 9 (by decide +kernel) rfl), (tb_in 976 (by decide +kernel) rfl), ⟨by decide +kernel, by decide +kernel, by decide +kernel⟩, by decide +kernel⟩
theorem kX7_301 : Lk_ RX7 301 mX7_tellsName 2 := ⟨(tb_in 1181 (by decide +kernel) rfl), (tb_in 9 (by decide +kernel) rfl), (tb_in 1184 (by decide +kernel) rfl), ⟨by decide +kernel, by decide +kernel, by decide +kernel⟩, by decide +kernel⟩
theorem kX7_289 : Lk_ RX7 289 mX7_strike 2 := ⟨(tb_in 1185 (by decide +kernel) rfl), (tb_in 9 (by decide +kernel) rfl), (tb_in 1080 (by decide +kernel) rfl), ⟨by decide +kernel, by decide +kernel, by decide +kernel⟩, by decide +kernel⟩
theorem iX0_weigh : Cond.instanceMethod mX0_weigh.1 ∈ gw_ ∧ Cond.selects mX0_weigh.1.cls mX0_weigh.1 mX0_weigh.1 ∈ gw_ := ⟨(tb_in 588 (by decide +kernel) rfl), (tb_in 589 (by decide +kernel) rfl)⟩
theorem iX0_shipToPress : Cond.instanceMethod mX0_shipToPress.1 ∈ gw_ ∧ Cond.selects mX0_shipToPress.1.cls mX0_shipToPress.1 mX0_shipToPress.1 ∈ gw_ := ⟨(tb_in 601 (by decide +kernel) rfl), (tb_in 602 (by decide +kernel) rfl)⟩
theorem iX0_fitsAllSeen : Cond.instanceMethod mX0_fitsAllSeen.1 ∈ gw_ ∧ Cond.selects mX0_fitsAllSeen.1.cls mX0_fitsAllSeen.1 mX0_fitsAllSeen.1 ∈ gw_ := ⟨(tb_in 593 (by decide +kernel) rfl), (sl_in 12 (by decide +kernel) rfl)⟩
theorem iX0_greatestGroup : Cond.instanceMethod mX0_greatestGroup.1 ∈ gw_ ∧ Cond.selects mX0_greatestGroup.1.cls mX0_greatestGroup.1 mX0_greatestGroup.1 ∈ gw_ := ⟨(tb_in 606 (by decide +kernel) rfl), (sl_in 13 (by decide +kernel) rfl)⟩
theorem iX1_hasShip : Cond.instanceMethod mX1_hasShip.1 ∈ gw_ ∧ Cond.selects mX1_hasShip.1.cls mX1_hasShip.1 mX1_hasShip.1 ∈ gw_ := ⟨(tb_in 398 (by decide +kernel) rfl), (tb_in 399 (by decide +kernel) rfl)⟩
theorem iX1_hasName : Cond.instanceMethod mX1_hasName.1 ∈ gw_ ∧ Cond.selects mX1_hasName.1.cls mX1_hasName.1 mX1_hasName.1 ∈ gw_ := ⟨(tb_in 390 (by decide +kernel) rfl), (tb_in 391 (by decide +kernel) rfl)⟩
theorem iX1_hasLine : Cond.instanceMethod mX1_hasLine.1 ∈ gw_ ∧ Cond.selects mX1_hasLine.1.cls mX1_hasLine.1 mX1_hasLine.1 ∈ gw_ := ⟨(tb_in 437 (by decide +kernel) rfl), (tb_in 438 (by decide +kernel) rfl)⟩
theorem iX1_isDrowned : Cond.instanceMethod mX1_isDrowned.1 ∈ gw_ ∧ Cond.selects mX1_isDrowned.1.cls mX1_isDrowned.1 mX1_isDrowned.1 ∈ gw_ := ⟨(tb_in 429 (by decide +kernel) rfl), (tb_in 430 (by decide +kernel) rfl)⟩
theorem iX1_settleShips : Cond.instanceMethod mX1_settleShips.1 ∈ gw_ ∧ Cond.selects mX1_settleShips.1.cls mX1_settleShips.1 mX1_settleShips.1 ∈ gw_ := ⟨(tb_in 300 (by decide +kernel) rfl), (tb_in 301 (by decide +kernel) rfl)⟩
theorem iX1_settleNames : Cond.instanceMethod mX1_settleNames.1 ∈ gw_ ∧ Cond.selects mX1_settleNames.1.cls mX1_settleNames.1 mX1_settleNames.1 ∈ gw_ := ⟨(tb_in 373 (by decide +kernel) rfl), (tb_in 374 (by decide +kernel) rfl)⟩
theorem iX1_settleLines : Cond.instanceMethod mX1_settleLines.1 ∈ gw_ ∧ Cond.selects mX1_settleLines.1.cls mX1_settleLines.1 mX1_settleLines.1 ∈ gw_ := ⟨(tb_in 378 (by decide +kernel) rfl), (tb_in 379 (by decide +kernel) rfl)⟩
theorem iX1_strikeOut : Cond.instanceMethod mX1_strikeOut.1 ∈ gw_ ∧ Cond.selects mX1_strikeOut.1.cls mX1_strikeOut.1 mX1_strikeOut.1 ∈ gw_ := ⟨(tb_in 382 (by decide +kernel) rfl), (tb_in 383 (by decide +kernel) rfl)⟩
theorem iX1_bearerOf : Cond.instanceMethod mX1_bearerOf.1 ∈ gw_ ∧ Cond.selects mX1_bearerOf.1.cls mX1_bearerOf.1 mX1_bearerOf.1 ∈ gw_ := ⟨(tb_in 387 (by decide +kernel) rfl), (sl_in 3 (by decide +kernel) rfl)⟩
theorem iX1_isVoid : Cond.instanceMethod mX1_isVoid.1 ∈ gw_ ∧ Cond.selects mX1_isVoid.1.cls mX1_isVoid.1 mX1_isVoid.1 ∈ gw_ := ⟨(tb_in 395 (by decide +kernel) rfl), (sl_in 4 (by decide +kernel) rfl)⟩
theorem iX1_dueOfLine : Cond.instanceMethod mX1_dueOfLine.1 ∈ gw_ ∧ Cond.selects mX1_dueOfLine.1.cls mX1_dueOfLine.1 mX1_dueOfLine.1 ∈ gw_ := ⟨(tb_in 403 (by decide +kernel) rfl), (sl_in 5 (by decide +kernel) rfl)⟩
theorem iX1_namesBorneBy : Cond.instanceMethod mX1_namesBorneBy.1 ∈ gw_ ∧ Cond.selects mX1_namesBorneBy.1.cls mX1_namesBorneBy.1 mX1_namesBorneBy.1 ∈ gw_ := ⟨(tb_in 484 (by decide +kernel) rfl), (tb_in 485 (by decide +kernel) rfl)⟩
theorem iX1_dueOf : Cond.instanceMethod mX1_dueOf.1 ∈ gw_ ∧ Cond.selects mX1_dueOf.1.cls mX1_dueOf.1 mX1_dueOf.1 ∈ gw_ := ⟨(tb_in 492 (by decide +kernel) rfl), (tb_in 493 (by decide +kernel) rfl)⟩
theorem iX1_dueOfAllShips : Cond.instanceMethod mX1_dueOfAllShips.1 ∈ gw_ ∧ Cond.selects mX1_dueOfAllShips.1.cls mX1_dueOfAllShips.1 mX1_dueOfAllShips.1 ∈ gw_ := ⟨(tb_in 571 (by decide +kernel) rfl), (tb_in 572 (by decide +kernel) rfl)⟩
theorem iX1_hasTogether : Cond.instanceMethod mX1_hasTogether.1 ∈ gw_ ∧ Cond.selects mX1_hasTogether.1.cls mX1_hasTogether.1 mX1_hasTogether.1 ∈ gw_ := ⟨(tb_in 557 (by decide +kernel) rfl), (tb_in 558 (by decide +kernel) rfl)⟩
theorem iX1_chancesOf : Cond.instanceMethod mX1_chancesOf.1 ∈ gw_ ∧ Cond.selects mX1_chancesOf.1.cls mX1_chancesOf.1 mX1_chancesOf.1 ∈ gw_ := ⟨(tb_in 625 (by decide +kernel) rfl), (tb_in 626 (by decide +kernel) rfl)⟩
theorem iX2_isFull : Cond.instanceMethod mX2_isFull.1 ∈ gw_ ∧ Cond.selects mX2_isFull.1.cls mX2_isFull.1 mX2_isFull.1 ∈ gw_ := ⟨(tb_in 455 (by decide +kernel) rfl), (tb_in 456 (by decide +kernel) rfl)⟩
theorem iX2_append : Cond.instanceMethod mX2_append.1 ∈ gw_ ∧ Cond.selects mX2_append.1.cls mX2_append.1 mX2_append.1 ∈ gw_ := ⟨(tb_in 459 (by decide +kernel) rfl), (tb_in 460 (by decide +kernel) rfl)⟩
theorem iX3_followTold : Cond.instanceMethod mX3_followTold.1 ∈ gw_ ∧ Cond.selects mX3_followTold.1.cls mX3_followTold.1 mX3_followTold.1 ∈ gw_ := ⟨(tb_in 504 (by decide +kernel) rfl), (tb_in 505 (by decide +kernel) rfl)⟩
theorem iX3_followLots : Cond.instanceMethod mX3_followLots.1 ∈ gw_ ∧ Cond.selects mX3_followLots.1.cls mX3_followLots.1 mX3_followLots.1 ∈ gw_ := ⟨(tb_in 637 (by decide +kernel) rfl), (tb_in 638 (by decide +kernel) rfl)⟩
theorem iX3_loseTogether : Cond.instanceMethod mX3_loseTogether.1 ∈ gw_ ∧ Cond.selects mX3_loseTogether.1.cls mX3_loseTogether.1 mX3_loseTogether.1 ∈ gw_ := ⟨(tb_in 629 (by decide +kernel) rfl), (tb_in 630 (by decide +kernel) rfl)⟩
theorem iX3_loseAlone : Cond.instanceMethod mX3_loseAlone.1 ∈ gw_ ∧ Cond.selects mX3_loseAlone.1.cls mX3_loseAlone.1 mX3_loseAlone.1 ∈ gw_ := ⟨(tb_in 549 (by decide +kernel) rfl), (tb_in 550 (by decide +kernel) rfl)⟩
theorem iX3_begin : Cond.instanceMethod mX3_begin.1 ∈ gw_ ∧ Cond.selects mX3_begin.1.cls mX3_begin.1 mX3_begin.1 ∈ gw_ := ⟨(tb_in 509 (by decide +kernel) rfl), (sl_in 8 (by decide +kernel) rfl)⟩
theorem iX3_isLost : Cond.instanceMethod mX3_isLost.1 ∈ gw_ ∧ Cond.selects mX3_isLost.1.cls mX3_isLost.1 mX3_isLost.1 ∈ gw_ := ⟨(tb_in 524 (by decide +kernel) rfl), (sl_in 10 (by decide +kernel) rfl)⟩
theorem iX3_sink : Cond.instanceMethod mX3_sink.1 ∈ gw_ ∧ Cond.selects mX3_sink.1.cls mX3_sink.1 mX3_sink.1 ∈ gw_ := ⟨(tb_in 519 (by decide +kernel) rfl), (sl_in 9 (by decide +kernel) rfl)⟩
theorem iX3_breakName : Cond.instanceMethod mX3_breakName.1 ∈ gw_ ∧ Cond.selects mX3_breakName.1.cls mX3_breakName.1 mX3_breakName.1 ∈ gw_ := ⟨(tb_in 530 (by decide +kernel) rfl), (sl_in 11 (by decide +kernel) rfl)⟩
theorem iX4_renew : Cond.instanceMethod mX4_renew.1 ∈ gw_ ∧ Cond.selects mX4_renew.1.cls mX4_renew.1 mX4_renew.1 ∈ gw_ := ⟨(tb_in 649 (by decide +kernel) rfl), (tb_in 650 (by decide +kernel) rfl)⟩
theorem iX4_findingAt : Cond.instanceMethod mX4_findingAt.1 ∈ gw_ ∧ Cond.selects mX4_findingAt.1.cls mX4_findingAt.1 mX4_findingAt.1 ∈ gw_ := ⟨(tb_in 662 (by decide +kernel) rfl), (tb_in 663 (by decide +kernel) rfl)⟩
theorem iX4_hasRange : Cond.instanceMethod mX4_hasRange.1 ∈ gw_ ∧ Cond.selects mX4_hasRange.1.cls mX4_hasRange.1 mX4_hasRange.1 ∈ gw_ := ⟨(tb_in 683 (by decide +kernel) rfl), (tb_in 684 (by decide +kernel) rfl)⟩
theorem iX4_put : Cond.instanceMethod mX4_put.1 ∈ gw_ ∧ Cond.selects mX4_put.1.cls mX4_put.1 mX4_put.1 ∈ gw_ := ⟨(tb_in 666 (by decide +kernel) rfl), (tb_in 667 (by decide +kernel) rfl)⟩
theorem iX4_narrowed : Cond.instanceMethod mX4_narrowed.1 ∈ gw_ ∧ Cond.selects mX4_narrowed.1.cls mX4_narrowed.1 mX4_narrowed.1 ∈ gw_ := ⟨(tb_in 671 (by decide +kernel) rfl), (sl_in 14 (by decide +kernel) rfl)⟩
theorem iX5_isFull : Cond.instanceMethod mX5_isFull.1 ∈ gw_ ∧ Cond.selects mX5_isFull.1.cls mX5_isFull.1 mX5_isFull.1 ∈ gw_ := ⟨(tb_in 287 (by decide +kernel) rfl), (tb_in 288 (by decide +kernel) rfl)⟩
theorem iX5_append : Cond.instanceMethod mX5_append.1 ∈ gw_ ∧ Cond.selects mX5_append.1.cls mX5_append.1 mX5_append.1 ∈ gw_ := ⟨(tb_in 291 (by decide +kernel) rfl), (tb_in 292 (by decide +kernel) rfl)⟩
theorem iX5_byteAt : Cond.instanceMethod mX5_byteAt.1 ∈ gw_ ∧ Cond.selects mX5_byteAt.1.cls mX5_byteAt.1 mX5_byteAt.1 ∈ gw_ := ⟨(tb_in 316 (by decide +kernel) rfl), (tb_in 317 (by decide +kernel) rfl)⟩
theorem iX5_figureAt : Cond.instanceMethod mX5_figureAt.1 ∈ gw_ ∧ Cond.selects mX5_figureAt.1.cls mX5_figureAt.1 mX5_figureAt.1 ∈ gw_ := ⟨(tb_in 368 (by decide +kernel) rfl), (tb_in 369 (by decide +kernel) rfl)⟩
theorem iX5_figuresAt : Cond.instanceMethod mX5_figuresAt.1 ∈ gw_ ∧ Cond.selects mX5_figuresAt.1.cls mX5_figuresAt.1 mX5_figuresAt.1 ∈ gw_ := ⟨(tb_in 364 (by decide +kernel) rfl), (tb_in 365 (by decide +kernel) rfl)⟩
theorem iX5_faultPlace : Cond.instanceMethod mX5_faultPlace.1 ∈ gw_ ∧ Cond.selects mX5_faultPlace.1.cls mX5_faultPlace.1 mX5_faultPlace.1 ∈ gw_ := ⟨(tb_in 308 (by decide +kernel) rfl), (tb_in 309 (by decide +kernel) rfl)⟩
theorem iX5_items : Cond.instanceMethod mX5_items.1 ∈ gw_ ∧ Cond.selects mX5_items.1.cls mX5_items.1 mX5_items.1 ∈ gw_ := ⟨(tb_in 304 (by decide +kernel) rfl), (tb_in 305 (by decide +kernel) rfl)⟩
theorem iX5_goesOnAt : Cond.instanceMethod mX5_goesOnAt.1 ∈ gw_ ∧ Cond.selects mX5_goesOnAt.1.cls mX5_goesOnAt.1 mX5_goesOnAt.1 ∈ gw_ := ⟨(tb_in 313 (by decide +kernel) rfl), (sl_in 2 (by decide +kernel) rfl)⟩
theorem sX5_isBetween : Cond.static mX5_isBetween.1 ∈ gw_ := (tb_in 358 (by decide +kernel) rfl)
theorem iX6_type : Cond.instanceMethod mX6_type.1 ∈ gw_ ∧ Cond.selects mX6_type.1.cls mX6_type.1 mX6_type.1 ∈ gw_ := ⟨(tb_in 276 (by decide +kernel) rfl), (tb_in 277 (by decide +kernel) rfl)⟩
theorem iX6_wipe : Cond.instanceMethod mX6_wipe.1 ∈ gw_ ∧ Cond.selects mX6_wipe.1.cls mX6_wipe.1 mX6_wipe.1 ∈ gw_ := ⟨(tb_in 406 (by decide +kernel) rfl), (tb_in 407 (by decide +kernel) rfl)⟩
theorem iX6_undo : Cond.instanceMethod mX6_undo.1 ∈ gw_ ∧ Cond.selects mX6_undo.1.cls mX6_undo.1 mX6_undo.1 ∈ gw_ := ⟨(tb_in 410 (by decide +kernel) rfl), (tb_in 411 (by decide +kernel) rfl)⟩
theorem iX6_fault : Cond.instanceMethod mX6_fault.1 ∈ gw_ ∧ Cond.selects mX6_fault.1.cls mX6_fault.1 mX6_fault.1 ∈ gw_ := ⟨(tb_in 414 (by decide +kernel) rfl), (tb_in 415 (by decide +kernel) rfl)⟩
theorem iX6_ship : Cond.instanceMethod mX6_ship.1 ∈ gw_ ∧ Cond.selects mX6_ship.1.cls mX6_ship.1 mX6_ship.1 ∈ gw_ := ⟨(tb_in 419 (by decide +kernel) rfl), (tb_in 420 (by decide +kernel) rfl)⟩
theorem iX6_name : Cond.instanceMethod mX6_name.1 ∈ gw_ ∧ Cond.selects mX6_name.1.cls mX6_name.1 mX6_name.1 ∈ gw_ := ⟨(tb_in 424 (by decide +kernel) rfl), (tb_in 425 (by decide +kernel) rfl)⟩
theorem iX6_line : Cond.instanceMethod mX6_line.1 ∈ gw_ ∧ Cond.selects mX6_line.1.cls mX6_line.1 mX6_line.1 ∈ gw_ := ⟨(tb_in 433 (by decide +kernel) rfl), (tb_in 434 (by decide +kernel) rfl)⟩
theorem iX6_struck : Cond.instanceMethod mX6_struck.1 ∈ gw_ ∧ Cond.selects mX6_struck.1.cls mX6_struck.1 mX6_struck.1 ∈ gw_ := ⟨(tb_in 441 (by decide +kernel) rfl), (tb_in 442 (by decide +kernel) rfl)⟩
theorem iX6_loss : Cond.instanceMethod mX6_loss.1 ∈ gw_ ∧ Cond.selects mX6_loss.1.cls mX6_loss.1 mX6_loss.1 ∈ gw_ := ⟨(tb_in 445 (by decide +kernel) rfl), (tb_in 446 (by decide +kernel) rfl)⟩
theorem iX6_back : Cond.instanceMethod mX6_back.1 ∈ gw_ ∧ Cond.selects mX6_back.1.cls mX6_back.1 mX6_back.1 ∈ gw_ := ⟨(tb_in 464 (by decide +kernel) rfl), (tb_in 465 (by decide +kernel) rfl)⟩
theorem iX6_read : Cond.instanceMethod mX6_read.1 ∈ gw_ ∧ Cond.selects mX6_read.1.cls mX6_read.1 mX6_read.1 ∈ gw_ := ⟨(tb_in 468 (by decide +kernel) rfl), (tb_in 469 (by decide +kernel) rfl)⟩
theorem iX6_bearer : Cond.instanceMethod mX6_bearer.1 ∈ gw_ ∧ Cond.selects mX6_bearer.1.cls mX6_bearer.1 mX6_bearer.1 ∈ gw_ := ⟨(tb_in 480 (by decide +kernel) rfl), (tb_in 481 (by decide +kernel) rfl)⟩
theorem iX6_borne : Cond.instanceMethod mX6_borne.1 ∈ gw_ ∧ Cond.selects mX6_borne.1.cls mX6_borne.1 mX6_borne.1 ∈ gw_ := ⟨(tb_in 488 (by decide +kernel) rfl), (tb_in 489 (by decide +kernel) rfl)⟩
theorem iX6_unborne : Cond.instanceMethod mX6_unborne.1 ∈ gw_ ∧ Cond.selects mX6_unborne.1.cls mX6_unborne.1 mX6_unborne.1 ∈ gw_ := ⟨(tb_in 496 (by decide +kernel) rfl), (tb_in 497 (by decide +kernel) rfl)⟩
theorem iX6_left : Cond.instanceMethod mX6_left.1 ∈ gw_ ∧ Cond.selects mX6_left.1.cls mX6_left.1 mX6_left.1 ∈ gw_ := ⟨(tb_in 500 (by decide +kernel) rfl), (tb_in 501 (by decide +kernel) rfl)⟩
theorem iX6_behind : Cond.instanceMethod mX6_behind.1 ∈ gw_ ∧ Cond.selects mX6_behind.1.cls mX6_behind.1 mX6_behind.1 ∈ gw_ := ⟨(tb_in 533 (by decide +kernel) rfl), (tb_in 534 (by decide +kernel) rfl)⟩
theorem iX6_paid : Cond.instanceMethod mX6_paid.1 ∈ gw_ ∧ Cond.selects mX6_paid.1.cls mX6_paid.1 mX6_paid.1 ∈ gw_ := ⟨(tb_in 537 (by decide +kernel) rfl), (tb_in 538 (by decide +kernel) rfl)⟩
theorem iX6_first : Cond.instanceMethod mX6_first.1 ∈ gw_ ∧ Cond.selects mX6_first.1.cls mX6_first.1 mX6_first.1 ∈ gw_ := ⟨(tb_in 541 (by decide +kernel) rfl), (tb_in 542 (by decide +kernel) rfl)⟩
theorem iX6_safe : Cond.instanceMethod mX6_safe.1 ∈ gw_ ∧ Cond.selects mX6_safe.1.cls mX6_safe.1 mX6_safe.1 ∈ gw_ := ⟨(tb_in 545 (by decide +kernel) rfl), (tb_in 546 (by decide +kernel) rfl)⟩
theorem iX6_take : Cond.instanceMethod mX6_take.1 ∈ gw_ ∧ Cond.selects mX6_take.1.cls mX6_take.1 mX6_take.1 ∈ gw_ := ⟨(tb_in 553 (by decide +kernel) rfl), (tb_in 554 (by decide +kernel) rfl)⟩
theorem iX6_strike : Cond.instanceMethod mX6_strike.1 ∈ gw_ ∧ Cond.selects mX6_strike.1.cls mX6_strike.1 mX6_strike.1 ∈ gw_ := ⟨(tb_in 567 (by decide +kernel) rfl), (tb_in 568 (by decide +kernel) rfl)⟩
theorem iX6_seen : Cond.instanceMethod mX6_seen.1 ∈ gw_ ∧ Cond.selects mX6_seen.1.cls mX6_seen.1 mX6_seen.1 ∈ gw_ := ⟨(tb_in 576 (by decide +kernel) rfl), (tb_in 577 (by decide +kernel) rfl)⟩
theorem iX6_forget : Cond.instanceMethod mX6_forget.1 ∈ gw_ ∧ Cond.selects mX6_forget.1.cls mX6_forget.1 mX6_forget.1 ∈ gw_ := ⟨(tb_in 580 (by decide +kernel) rfl), (tb_in 581 (by decide +kernel) rfl)⟩
theorem iX6_sound : Cond.instanceMethod mX6_sound.1 ∈ gw_ ∧ Cond.selects mX6_sound.1.cls mX6_sound.1 mX6_sound.1 ∈ gw_ := ⟨(tb_in 584 (by decide +kernel) rfl), (tb_in 585 (by decide +kernel) rfl)⟩
theorem iX6_press : Cond.instanceMethod mX6_press.1 ∈ gw_ ∧ Cond.selects mX6_press.1.cls mX6_press.1 mX6_press.1 ∈ gw_ := ⟨(tb_in 597 (by decide +kernel) rfl), (tb_in 598 (by decide +kernel) rfl)⟩
theorem iX6_fair : Cond.instanceMethod mX6_fair.1 ∈ gw_ ∧ Cond.selects mX6_fair.1.cls mX6_fair.1 mX6_fair.1 ∈ gw_ := ⟨(tb_in 613 (by decide +kernel) rfl), (tb_in 614 (by decide +kernel) rfl)⟩
theorem iX6_storm : Cond.instanceMethod mX6_storm.1 ∈ gw_ ∧ Cond.selects mX6_storm.1.cls mX6_storm.1 mX6_storm.1 ∈ gw_ := ⟨(tb_in 621 (by decide +kernel) rfl), (tb_in 622 (by decide +kernel) rfl)⟩
theorem iX6_years : Cond.instanceMethod mX6_years.1 ∈ gw_ ∧ Cond.selects mX6_years.1.cls mX6_years.1 mX6_years.1 ∈ gw_ := ⟨(tb_in 633 (by decide +kernel) rfl), (tb_in 634 (by decide +kernel) rfl)⟩
theorem iX6_sheet : Cond.instanceMethod mX6_sheet.1 ∈ gw_ ∧ Cond.selects mX6_sheet.1.cls mX6_sheet.1 mX6_sheet.1 ∈ gw_ := ⟨(tb_in 642 (by decide +kernel) rfl), (tb_in 643 (by decide +kernel) rfl)⟩
theorem iX6_lose : Cond.instanceMethod mX6_lose.1 ∈ gw_ ∧ Cond.selects mX6_lose.1.cls mX6_lose.1 mX6_lose.1 ∈ gw_ := ⟨(tb_in 654 (by decide +kernel) rfl), (tb_in 655 (by decide +kernel) rfl)⟩
theorem iX6_lay : Cond.instanceMethod mX6_lay.1 ∈ gw_ ∧ Cond.selects mX6_lay.1.cls mX6_lay.1 mX6_lay.1 ∈ gw_ := ⟨(tb_in 658 (by decide +kernel) rfl), (tb_in 659 (by decide +kernel) rfl)⟩
theorem iX6_get : Cond.instanceMethod mX6_get.1 ∈ gw_ ∧ Cond.selects mX6_get.1.cls mX6_get.1 mX6_get.1 ∈ gw_ := ⟨(tb_in 674 (by decide +kernel) rfl), (tb_in 675 (by decide +kernel) rfl)⟩
theorem iX6_copy : Cond.instanceMethod mX6_copy.1 ∈ gw_ ∧ Cond.selects mX6_copy.1.cls mX6_copy.1 mX6_copy.1 ∈ gw_ := ⟨(tb_in 679 (by decide +kernel) rfl), (tb_in 680 (by decide +kernel) rfl)⟩
theorem iX6_write : Cond.instanceMethod mX6_write.1 ∈ gw_ ∧ Cond.selects mX6_write.1.cls mX6_write.1 mX6_write.1 ∈ gw_ := ⟨(tb_in 688 (by decide +kernel) rfl), (tb_in 689 (by decide +kernel) rfl)⟩
theorem iX6_count : Cond.instanceMethod mX6_count.1 ∈ gw_ ∧ Cond.selects mX6_count.1.cls mX6_count.1 mX6_count.1 ∈ gw_ := ⟨(tb_in 693 (by decide +kernel) rfl), (tb_in 694 (by decide +kernel) rfl)⟩
theorem iX6_digest : Cond.instanceMethod mX6_digest.1 ∈ gw_ ∧ Cond.selects mX6_digest.1.cls mX6_digest.1 mX6_digest.1 ∈ gw_ := ⟨(tb_in 697 (by decide +kernel) rfl), (tb_in 698 (by decide +kernel) rfl)⟩
theorem iX6_withShip : Cond.instanceMethod mX6_withShip.1 ∈ gw_ ∧ Cond.selects mX6_withShip.1.cls mX6_withShip.1 mX6_withShip.1 ∈ gw_ := ⟨(tb_in 706 (by decide +kernel) rfl), (sl_in 15 (by decide +kernel) rfl)⟩
theorem iX6_withName : Cond.instanceMethod mX6_withName.1 ∈ gw_ ∧ Cond.selects mX6_withName.1.cls mX6_withName.1 mX6_withName.1 ∈ gw_ := ⟨(tb_in 715 (by decide +kernel) rfl), (sl_in 16 (by decide +kernel) rfl)⟩
theorem iX6_withYear : Cond.instanceMethod mX6_withYear.1 ∈ gw_ ∧ Cond.selects mX6_withYear.1.cls mX6_withYear.1 mX6_withYear.1 ∈ gw_ := ⟨(tb_in 727 (by decide +kernel) rfl), (sl_in 17 (by decide +kernel) rfl)⟩
theorem iX6_textAt : Cond.instanceMethod mX6_textAt.1 ∈ gw_ ∧ Cond.selects mX6_textAt.1.cls mX6_textAt.1 mX6_textAt.1 ∈ gw_ := ⟨(tb_in 281 (by decide +kernel) rfl), (sl_in 0 (by decide +kernel) rfl)⟩
theorem iX6_sheetAt : Cond.instanceMethod mX6_sheetAt.1 ∈ gw_ ∧ Cond.selects mX6_sheetAt.1.cls mX6_sheetAt.1 mX6_sheetAt.1 ∈ gw_ := ⟨(tb_in 473 (by decide +kernel) rfl), (sl_in 6 (by decide +kernel) rfl)⟩
theorem iX6_settle : Cond.instanceMethod mX6_settle.1 ∈ gw_ ∧ Cond.selects mX6_settle.1.cls mX6_settle.1 mX6_settle.1 ∈ gw_ := ⟨(tb_in 297 (by decide +kernel) rfl), (sl_in 1 (by decide +kernel) rfl)⟩
theorem iX6_found : Cond.instanceMethod mX6_found.1 ∈ gw_ ∧ Cond.selects mX6_found.1.cls mX6_found.1 mX6_found.1 ∈ gw_ := ⟨(tb_in 477 (by decide +kernel) rfl), (sl_in 7 (by decide +kernel) rfl)⟩
theorem sX6_isWithin : Cond.static mX6_isWithin.1 ∈ gw_ := (tb_in 284 (by decide +kernel) rfl)
theorem sX6_isYear : Cond.static mX6_isYear.1 ∈ gw_ := (tb_in 452 (by decide +kernel) rfl)
theorem sX6_isForm : Cond.static mX6_isForm.1 ∈ gw_ := (tb_in 646 (by decide +kernel) rfl)
theorem sX6_isLoss : Cond.static mX6_isLoss.1 ∈ gw_ := (tb_in 449 (by decide +kernel) rfl)
theorem sX6_partOfFraction : Cond.static mX6_partOfFraction.1 ∈ gw_ := (tb_in 618 (by decide +kernel) rfl)
theorem sX7_in : Cond.static mX7_in.1 ∈ gw_ := (tb_in 828 (by decide +kernel) rfl)
theorem sX7_no : Cond.static mX7_no.1 ∈ gw_ := (tb_in 1135 (by decide +kernel) rfl)
theorem sX7_isTwo : Cond.static mX7_isTwo.1 ∈ gw_ := (tb_in 924 (by decide +kernel) rfl)
theorem sX7_isIn : Cond.static mX7_isIn.1 ∈ gw_ := (tb_in 955 (by decide +kernel) rfl)
theorem sX7_ones : Cond.static mX7_ones.1 ∈ gw_ := (tb_in 1075 (by decide +kernel) rfl)
theorem sX7_lesser : Cond.static mX7_lesser.1 ∈ gw_ := (tb_in 1024 (by decide +kernel) rfl)
theorem sX7_part : Cond.static mX7_part.1 ∈ gw_ := (tb_in 1132 (by decide +kernel) rfl)
theorem iX7_finds : Cond.instanceMethod mX7_finds.1 ∈ gw_ ∧ Cond.selects mX7_finds.1.cls mX7_finds.1 mX7_finds.1 ∈ gw_ := ⟨(tb_in 833 (by decide +kernel) rfl), (sl_in 18 (by decide +kernel) rfl)⟩
theorem sX7_isSheet : Cond.static mX7_isSheet.1 ∈ gw_ := (tb_in 824 (by decide +kernel) rfl)
theorem iX7_sheet : Cond.instanceMethod mX7_sheet.1 ∈ gw_ ∧ Cond.selects mX7_sheet.1.cls mX7_sheet.1 mX7_sheet.1 ∈ gw_ := ⟨(tb_in 820 (by decide +kernel) rfl), (tb_in 821 (by decide +kernel) rfl)⟩
theorem iX7_lose : Cond.instanceMethod mX7_lose.1 ∈ gw_ ∧ Cond.selects mX7_lose.1.cls mX7_lose.1 mX7_lose.1 ∈ gw_ := ⟨(tb_in 836 (by decide +kernel) rfl), (tb_in 837 (by decide +kernel) rfl)⟩
theorem iX7_lacks : Cond.instanceMethod mX7_lacks.1 ∈ gw_ ∧ Cond.selects mX7_lacks.1.cls mX7_lacks.1 mX7_lacks.1 ∈ gw_ := ⟨(tb_in 845 (by decide +kernel) rfl), (sl_in 19 (by decide +kernel) rfl)⟩
theorem sX7_cut : Cond.static mX7_cut.1 ∈ gw_ := (tb_in 848 (by decide +kernel) rfl)
theorem iX7_lay : Cond.instanceMethod mX7_lay.1 ∈ gw_ ∧ Cond.selects mX7_lay.1.cls mX7_lay.1 mX7_lay.1 ∈ gw_ := ⟨(tb_in 840 (by decide +kernel) rfl), (tb_in 841 (by decide +kernel) rfl)⟩
theorem iX7_get : Cond.instanceMethod mX7_get.1 ∈ gw_ ∧ Cond.selects mX7_get.1.cls mX7_get.1 mX7_get.1 ∈ gw_ := ⟨(tb_in 851 (by decide +kernel) rfl), (tb_in 852 (by decide +kernel) rfl)⟩
theorem iX7_copy : Cond.instanceMethod mX7_copy.1 ∈ gw_ ∧ Cond.selects mX7_copy.1.cls mX7_copy.1 mX7_copy.1 ∈ gw_ := ⟨(tb_in 856 (by decide +kernel) rfl), (tb_in 857 (by decide +kernel) rfl)⟩
theorem sX7_isText : Cond.static mX7_isText.1 ∈ gw_ := (tb_in 864 (by decide +kernel) rfl)
theorem iX7_type : Cond.instanceMethod mX7_type.1 ∈ gw_ ∧ Cond.selects mX7_type.1.cls mX7_type.1 mX7_type.1 ∈ gw_ := ⟨(tb_in 860 (by decide +kernel) rfl), (tb_in 861 (by decide +kernel) rfl)⟩
theorem iX7_wipe : Cond.instanceMethod mX7_wipe.1 ∈ gw_ ∧ Cond.selects mX7_wipe.1.cls mX7_wipe.1 mX7_wipe.1 ∈ gw_ := ⟨(tb_in 868 (by decide +kernel) rfl), (tb_in 869 (by decide +kernel) rfl)⟩
theorem iX7_undo : Cond.instanceMethod mX7_undo.1 ∈ gw_ ∧ Cond.selects mX7_undo.1.cls mX7_undo.1 mX7_undo.1 ∈ gw_ := ⟨(tb_in 872 (by decide +kernel) rfl), (tb_in 873 (by decide +kernel) rfl)⟩
theorem iX7_passes : Cond.instanceMethod mX7_passes.1 ∈ gw_ ∧ Cond.selects mX7_passes.1.cls mX7_passes.1 mX7_passes.1 ∈ gw_ := ⟨(tb_in 897 (by decide +kernel) rfl), (sl_in 24 (by decide +kernel) rfl)⟩
theorem iX7_twoFigures : Cond.instanceMethod mX7_twoFigures.1 ∈ gw_ ∧ Cond.selects mX7_twoFigures.1.cls mX7_twoFigures.1 mX7_twoFigures.1 ∈ gw_ := ⟨(tb_in 893 (by decide +kernel) rfl), (sl_in 23 (by decide +kernel) rfl)⟩
theorem iX7_units : Cond.instanceMethod mX7_units.1 ∈ gw_ ∧ Cond.selects mX7_units.1.cls mX7_units.1 mX7_units.1 ∈ gw_ := ⟨(tb_in 901 (by decide +kernel) rfl), (sl_in 25 (by decide +kernel) rfl)⟩
theorem iX7_readsShip : Cond.instanceMethod mX7_readsShip.1 ∈ gw_ ∧ Cond.selects mX7_readsShip.1.cls mX7_readsShip.1 mX7_readsShip.1 ∈ gw_ := ⟨(tb_in 889 (by decide +kernel) rfl), (sl_in 22 (by decide +kernel) rfl)⟩
theorem iX7_readsName : Cond.instanceMethod mX7_readsName.1 ∈ gw_ ∧ Cond.selects mX7_readsName.1.cls mX7_readsName.1 mX7_readsName.1 ∈ gw_ := ⟨(tb_in 905 (by decide +kernel) rfl), (sl_in 26 (by decide +kernel) rfl)⟩
theorem iX7_readsLine : Cond.instanceMethod mX7_readsLine.1 ∈ gw_ ∧ Cond.selects mX7_readsLine.1.cls mX7_readsLine.1 mX7_readsLine.1 ∈ gw_ := ⟨(tb_in 909 (by decide +kernel) rfl), (sl_in 27 (by decide +kernel) rfl)⟩
theorem iX7_readsThing : Cond.instanceMethod mX7_readsThing.1 ∈ gw_ ∧ Cond.selects mX7_readsThing.1.cls mX7_readsThing.1 mX7_readsThing.1 ∈ gw_ := ⟨(tb_in 885 (by decide +kernel) rfl), (sl_in 21 (by decide +kernel) rfl)⟩
theorem iX7_readsText : Cond.instanceMethod mX7_readsText.1 ∈ gw_ ∧ Cond.selects mX7_readsText.1.cls mX7_readsText.1 mX7_readsText.1 ∈ gw_ := ⟨(tb_in 881 (by decide +kernel) rfl), (sl_in 20 (by decide +kernel) rfl)⟩
theorem iX7_reads : Cond.instanceMethod mX7_reads.1 ∈ gw_ ∧ Cond.selects mX7_reads.1.cls mX7_reads.1 mX7_reads.1 ∈ gw_ := ⟨(tb_in 917 (by decide +kernel) rfl), (sl_in 28 (by decide +kernel) rfl)⟩
theorem iX7_fault : Cond.instanceMethod mX7_fault.1 ∈ gw_ ∧ Cond.selects mX7_fault.1.cls mX7_fault.1 mX7_fault.1 ∈ gw_ := ⟨(tb_in 876 (by decide +kernel) rfl), (tb_in 877 (by decide +kernel) rfl)⟩
theorem iX7_isShip : Cond.instanceMethod mX7_isShip.1 ∈ gw_ ∧ Cond.selects mX7_isShip.1.cls mX7_isShip.1 mX7_isShip.1 ∈ gw_ := ⟨(tb_in 921 (by decide +kernel) rfl), (sl_in 29 (by decide +kernel) rfl)⟩
theorem iX7_isName : Cond.instanceMethod mX7_isName.1 ∈ gw_ ∧ Cond.selects mX7_isName.1.cls mX7_isName.1 mX7_isName.1 ∈ gw_ := ⟨(tb_in 932 (by decide +kernel) rfl), (sl_in 30 (by decide +kernel) rfl)⟩
theorem sX7_isYear : Cond.static mX7_isYear.1 ∈ gw_ := (tb_in 990 (by decide +kernel) rfl)
theorem iX7_ship : Cond.instanceMethod mX7_ship.1 ∈ gw_ ∧ Cond.selects mX7_ship.1.cls mX7_ship.1 mX7_ship.1 ∈ gw_ := ⟨(tb_in 912 (by decide +kernel) rfl), (tb_in 913 (by decide +kernel) rfl)⟩
theorem iX7_name : Cond.instanceMethod mX7_name.1 ∈ gw_ ∧ Cond.selects mX7_name.1.cls mX7_name.1 mX7_name.1 ∈ gw_ := ⟨(tb_in 927 (by decide +kernel) rfl), (tb_in 928 (by decide +kernel) rfl)⟩
theorem iX7_struck : Cond.instanceMethod mX7_struck.1 ∈ gw_ ∧ Cond.selects mX7_struck.1.cls mX7_struck.1 mX7_struck.1 ∈ gw_ := ⟨(tb_in 935 (by decide +kernel) rfl), (tb_in 936 (by decide +kernel) rfl)⟩
theorem iX7_bearerOf : Cond.instanceMethod mX7_bearerOf.1 ∈ gw_ ∧ Cond.selects mX7_bearerOf.1.cls mX7_bearerOf.1 mX7_bearerOf.1 ∈ gw_ := ⟨(tb_in 967 (by decide +kernel) rfl), (sl_in 35 (by decide +kernel) rfl)⟩
theorem iX7_stands : Cond.instanceMethod mX7_stands.1 ∈ gw_ ∧ Cond.selects mX7_stands.1.cls mX7_stands.1 mX7_stands.1 ∈ gw_ := ⟨(tb_in 952 (by decide +kernel) rfl), (sl_in 33 (by decide +kernel) rfl)⟩
theorem iX7_dueOf : Cond.instanceMethod mX7_dueOf.1 ∈ gw_ ∧ Cond.selects mX7_dueOf.1.cls mX7_dueOf.1 mX7_dueOf.1 ∈ gw_ := ⟨(tb_in 948 (by decide +kernel) rfl), (sl_in 32 (by decide +kernel) rfl)⟩
theorem iX7_lineOf : Cond.instanceMethod mX7_lineOf.1 ∈ gw_ ∧ Cond.selects mX7_lineOf.1.cls mX7_lineOf.1 mX7_lineOf.1 ∈ gw_ := ⟨(tb_in 944 (by decide +kernel) rfl), (sl_in 31 (by decide +kernel) rfl)⟩
theorem iX7_line : Cond.instanceMethod mX7_line.1 ∈ gw_ ∧ Cond.selects mX7_line.1.cls mX7_line.1 mX7_line.1 ∈ gw_ := ⟨(tb_in 939 (by decide +kernel) rfl), (tb_in 940 (by decide +kernel) rfl)⟩
theorem iX7_bearersOf : Cond.instanceMethod mX7_bearersOf.1 ∈ gw_ ∧ Cond.selects mX7_bearersOf.1.cls mX7_bearersOf.1 mX7_bearersOf.1 ∈ gw_ := ⟨(tb_in 971 (by decide +kernel) rfl), (sl_in 36 (by decide +kernel) rfl)⟩
theorem iX7_bearerBy : Cond.instanceMethod mX7_bearerBy.1 ∈ gw_ ∧ Cond.selects mX7_bearerBy.1.cls mX7_bearerBy.1 mX7_bearerBy.1 ∈ gw_ := ⟨(tb_in 963 (by decide +kernel) rfl), (sl_in 34 (by decide +kernel) rfl)⟩
theorem iX7_bearer : Cond.instanceMethod mX7_bearer.1 ∈ gw_ ∧ Cond.selects mX7_bearer.1.cls mX7_bearer.1 mX7_bearer.1 ∈ gw_ := ⟨(tb_in 958 (by decide +kernel) rfl), (tb_in 959 (by decide +kernel) rfl)⟩
theorem iX7_borneOf : Cond.instanceMethod mX7_borneOf.1 ∈ gw_ ∧ Cond.selects mX7_borneOf.1.cls mX7_borneOf.1 mX7_borneOf.1 ∈ gw_ := ⟨(tb_in 979 (by decide +kernel) rfl), (sl_in 37 (by decide +kernel) rfl)⟩
theorem iX7_borne : Cond.instanceMethod mX7_borne.1 ∈ gw_ ∧ Cond.selects mX7_borne.1.cls mX7_borne.1 mX7_borne.1 ∈ gw_ := ⟨(tb_in 974 (by decide +kernel) rfl), (tb_in 975 (by decide +kernel) rfl)⟩
theorem iX7_unborne : Cond.instanceMethod mX7_unborne.1 ∈ gw_ ∧ Cond.selects mX7_unborne.1.cls mX7_unborne.1 mX7_unborne.1 ∈ gw_ := ⟨(tb_in 982 (by decide +kernel) rfl), (tb_in 983 (by decide +kernel) rfl)⟩
theorem iX7_loss : Cond.instanceMethod mX7_loss.1 ∈ gw_ ∧ Cond.selects mX7_loss.1.cls mX7_loss.1 mX7_loss.1 ∈ gw_ := ⟨(tb_in 986 (by decide +kernel) rfl), (tb_in 987 (by decide +kernel) rfl)⟩
theorem iX7_back : Cond.instanceMethod mX7_back.1 ∈ gw_ ∧ Cond.selects mX7_back.1.cls mX7_back.1 mX7_back.1 ∈ gw_ := ⟨(tb_in 995 (by decide +kernel) rfl), (tb_in 996 (by decide +kernel) rfl)⟩
theorem iX7_read : Cond.instanceMethod mX7_read.1 ∈ gw_ ∧ Cond.selects mX7_read.1.cls mX7_read.1 mX7_read.1 ∈ gw_ := ⟨(tb_in 999 (by decide +kernel) rfl), (tb_in 1000 (by decide +kernel) rfl)⟩
theorem iX7_begins : Cond.instanceMethod mX7_begins.1 ∈ gw_ ∧ Cond.selects mX7_begins.1.cls mX7_begins.1 mX7_begins.1 ∈ gw_ := ⟨(tb_in 1017 (by decide +kernel) rfl), (sl_in 40 (by decide +kernel) rfl)⟩
theorem iX7_goes : Cond.instanceMethod mX7_goes.1 ∈ gw_ ∧ Cond.selects mX7_goes.1.cls mX7_goes.1 mX7_goes.1 ∈ gw_ := ⟨(tb_in 1021 (by decide +kernel) rfl), (sl_in 41 (by decide +kernel) rfl)⟩
theorem iX7_lives : Cond.instanceMethod mX7_lives.1 ∈ gw_ ∧ Cond.selects mX7_lives.1.cls mX7_lives.1 mX7_lives.1 ∈ gw_ := ⟨(tb_in 1013 (by decide +kernel) rfl), (sl_in 39 (by decide +kernel) rfl)⟩
theorem iX7_leftOf : Cond.instanceMethod mX7_leftOf.1 ∈ gw_ ∧ Cond.selects mX7_leftOf.1.cls mX7_leftOf.1 mX7_leftOf.1 ∈ gw_ := ⟨(tb_in 1009 (by decide +kernel) rfl), (sl_in 38 (by decide +kernel) rfl)⟩
theorem iX7_left : Cond.instanceMethod mX7_left.1 ∈ gw_ ∧ Cond.selects mX7_left.1.cls mX7_left.1 mX7_left.1 ∈ gw_ := ⟨(tb_in 1004 (by decide +kernel) rfl), (tb_in 1005 (by decide +kernel) rfl)⟩
theorem iX7_behindOf : Cond.instanceMethod mX7_behindOf.1 ∈ gw_ ∧ Cond.selects mX7_behindOf.1.cls mX7_behindOf.1 mX7_behindOf.1 ∈ gw_ := ⟨(tb_in 1032 (by decide +kernel) rfl), (sl_in 42 (by decide +kernel) rfl)⟩
theorem iX7_behind : Cond.instanceMethod mX7_behind.1 ∈ gw_ ∧ Cond.selects mX7_behind.1.cls mX7_behind.1 mX7_behind.1 ∈ gw_ := ⟨(tb_in 1027 (by decide +kernel) rfl), (tb_in 1028 (by decide +kernel) rfl)⟩
theorem iX7_paidOf : Cond.instanceMethod mX7_paidOf.1 ∈ gw_ ∧ Cond.selects mX7_paidOf.1.cls mX7_paidOf.1 mX7_paidOf.1 ∈ gw_ := ⟨(tb_in 1040 (by decide +kernel) rfl), (sl_in 43 (by decide +kernel) rfl)⟩
theorem iX7_paid : Cond.instanceMethod mX7_paid.1 ∈ gw_ ∧ Cond.selects mX7_paid.1.cls mX7_paid.1 mX7_paid.1 ∈ gw_ := ⟨(tb_in 1035 (by decide +kernel) rfl), (tb_in 1036 (by decide +kernel) rfl)⟩
theorem iX7_firstOf : Cond.instanceMethod mX7_firstOf.1 ∈ gw_ ∧ Cond.selects mX7_firstOf.1.cls mX7_firstOf.1 mX7_firstOf.1 ∈ gw_ := ⟨(tb_in 1048 (by decide +kernel) rfl), (sl_in 44 (by decide +kernel) rfl)⟩
theorem iX7_first : Cond.instanceMethod mX7_first.1 ∈ gw_ ∧ Cond.selects mX7_first.1.cls mX7_first.1 mX7_first.1 ∈ gw_ := ⟨(tb_in 1043 (by decide +kernel) rfl), (tb_in 1044 (by decide +kernel) rfl)⟩
theorem iX7_alone : Cond.instanceMethod mX7_alone.1 ∈ gw_ ∧ Cond.selects mX7_alone.1.cls mX7_alone.1 mX7_alone.1 ∈ gw_ := ⟨(tb_in 1060 (by decide +kernel) rfl), (sl_in 46 (by decide +kernel) rfl)⟩
theorem iX7_safeNow : Cond.instanceMethod mX7_safeNow.1 ∈ gw_ ∧ Cond.selects mX7_safeNow.1.cls mX7_safeNow.1 mX7_safeNow.1 ∈ gw_ := ⟨(tb_in 1056 (by decide +kernel) rfl), (sl_in 45 (by decide +kernel) rfl)⟩
theorem iX7_safe : Cond.instanceMethod mX7_safe.1 ∈ gw_ ∧ Cond.selects mX7_safe.1.cls mX7_safe.1 mX7_safe.1 ∈ gw_ := ⟨(tb_in 1051 (by decide +kernel) rfl), (tb_in 1052 (by decide +kernel) rfl)⟩
theorem iX7_haveAll : Cond.instanceMethod mX7_haveAll.1 ∈ gw_ ∧ Cond.selects mX7_haveAll.1.cls mX7_haveAll.1 mX7_haveAll.1 ∈ gw_ := ⟨(tb_in 1072 (by decide +kernel) rfl), (sl_in 48 (by decide +kernel) rfl)⟩
theorem iX7_takeOf : Cond.instanceMethod mX7_takeOf.1 ∈ gw_ ∧ Cond.selects mX7_takeOf.1.cls mX7_takeOf.1 mX7_takeOf.1 ∈ gw_ := ⟨(tb_in 1068 (by decide +kernel) rfl), (sl_in 47 (by decide +kernel) rfl)⟩
theorem iX7_take : Cond.instanceMethod mX7_take.1 ∈ gw_ ∧ Cond.selects mX7_take.1.cls mX7_take.1 mX7_take.1 ∈ gw_ := ⟨(tb_in 1063 (by decide +kernel) rfl), (tb_in 1064 (by decide +kernel) rfl)⟩
theorem iX7_borneAll : Cond.instanceMethod mX7_borneAll.1 ∈ gw_ ∧ Cond.selects mX7_borneAll.1.cls mX7_borneAll.1 mX7_borneAll.1 ∈ gw_ := ⟨(tb_in 1087 (by decide +kernel) rfl), (sl_in 50 (by decide +kernel) rfl)⟩
theorem iX7_strikeOf : Cond.instanceMethod mX7_strikeOf.1 ∈ gw_ ∧ Cond.selects mX7_strikeOf.1.cls mX7_strikeOf.1 mX7_strikeOf.1 ∈ gw_ := ⟨(tb_in 1083 (by decide +kernel) rfl), (sl_in 49 (by decide +kernel) rfl)⟩
theorem iX7_strike : Cond.instanceMethod mX7_strike.1 ∈ gw_ ∧ Cond.selects mX7_strike.1.cls mX7_strike.1 mX7_strike.1 ∈ gw_ := ⟨(tb_in 1078 (by decide +kernel) rfl), (tb_in 1079 (by decide +kernel) rfl)⟩
theorem iX7_seen : Cond.instanceMethod mX7_seen.1 ∈ gw_ ∧ Cond.selects mX7_seen.1.cls mX7_seen.1 mX7_seen.1 ∈ gw_ := ⟨(tb_in 1090 (by decide +kernel) rfl), (tb_in 1091 (by decide +kernel) rfl)⟩
theorem iX7_forget : Cond.instanceMethod mX7_forget.1 ∈ gw_ ∧ Cond.selects mX7_forget.1.cls mX7_forget.1 mX7_forget.1 ∈ gw_ := ⟨(tb_in 1095 (by decide +kernel) rfl), (tb_in 1096 (by decide +kernel) rfl)⟩
theorem iX7_isSeen : Cond.instanceMethod mX7_isSeen.1 ∈ gw_ ∧ Cond.selects mX7_isSeen.1.cls mX7_isSeen.1 mX7_isSeen.1 ∈ gw_ := ⟨(tb_in 1108 (by decide +kernel) rfl), (sl_in 52 (by decide +kernel) rfl)⟩
theorem iX7_soundOf : Cond.instanceMethod mX7_soundOf.1 ∈ gw_ ∧ Cond.selects mX7_soundOf.1.cls mX7_soundOf.1 mX7_soundOf.1 ∈ gw_ := ⟨(tb_in 1104 (by decide +kernel) rfl), (sl_in 51 (by decide +kernel) rfl)⟩
theorem iX7_sound : Cond.instanceMethod mX7_sound.1 ∈ gw_ ∧ Cond.selects mX7_sound.1.cls mX7_sound.1 mX7_sound.1 ∈ gw_ := ⟨(tb_in 1099 (by decide +kernel) rfl), (tb_in 1100 (by decide +kernel) rfl)⟩
theorem iX7_mostAlike : Cond.instanceMethod mX7_mostAlike.1 ∈ gw_ ∧ Cond.selects mX7_mostAlike.1.cls mX7_mostAlike.1 mX7_mostAlike.1 ∈ gw_ := ⟨(tb_in 1120 (by decide +kernel) rfl), (sl_in 54 (by decide +kernel) rfl)⟩
theorem iX7_pressNow : Cond.instanceMethod mX7_pressNow.1 ∈ gw_ ∧ Cond.selects mX7_pressNow.1.cls mX7_pressNow.1 mX7_pressNow.1 ∈ gw_ := ⟨(tb_in 1116 (by decide +kernel) rfl), (sl_in 53 (by decide +kernel) rfl)⟩
theorem iX7_press : Cond.instanceMethod mX7_press.1 ∈ gw_ ∧ Cond.selects mX7_press.1.cls mX7_press.1 mX7_press.1 ∈ gw_ := ⟨(tb_in 1111 (by decide +kernel) rfl), (tb_in 1112 (by decide +kernel) rfl)⟩
theorem iX7_fairOf : Cond.instanceMethod mX7_fairOf.1 ∈ gw_ ∧ Cond.selects mX7_fairOf.1.cls mX7_fairOf.1 mX7_fairOf.1 ∈ gw_ := ⟨(tb_in 1128 (by decide +kernel) rfl), (sl_in 55 (by decide +kernel) rfl)⟩
theorem iX7_fair : Cond.instanceMethod mX7_fair.1 ∈ gw_ ∧ Cond.selects mX7_fair.1.cls mX7_fair.1 mX7_fair.1 ∈ gw_ := ⟨(tb_in 1123 (by decide +kernel) rfl), (tb_in 1124 (by decide +kernel) rfl)⟩
theorem iX7_stormOf : Cond.instanceMethod mX7_stormOf.1 ∈ gw_ ∧ Cond.selects mX7_stormOf.1.cls mX7_stormOf.1 mX7_stormOf.1 ∈ gw_ := ⟨(tb_in 1145 (by decide +kernel) rfl), (sl_in 56 (by decide +kernel) rfl)⟩
theorem iX7_storm : Cond.instanceMethod mX7_storm.1 ∈ gw_ ∧ Cond.selects mX7_storm.1.cls mX7_storm.1 mX7_storm.1 ∈ gw_ := ⟨(tb_in 1139 (by decide +kernel) rfl), (tb_in 1140 (by decide +kernel) rfl)⟩
theorem iX7_lot : Cond.instanceMethod mX7_lot.1 ∈ gw_ ∧ Cond.selects mX7_lot.1.cls mX7_lot.1 mX7_lot.1 ∈ gw_ := ⟨(tb_in 1158 (by decide +kernel) rfl), (sl_in 58 (by decide +kernel) rfl)⟩
theorem iX7_yearsOf : Cond.instanceMethod mX7_yearsOf.1 ∈ gw_ ∧ Cond.selects mX7_yearsOf.1.cls mX7_yearsOf.1 mX7_yearsOf.1 ∈ gw_ := ⟨(tb_in 1154 (by decide +kernel) rfl), (sl_in 57 (by decide +kernel) rfl)⟩
theorem iX7_years : Cond.instanceMethod mX7_years.1 ∈ gw_ ∧ Cond.selects mX7_years.1.cls mX7_years.1 mX7_years.1 ∈ gw_ := ⟨(tb_in 1148 (by decide +kernel) rfl), (tb_in 1149 (by decide +kernel) rfl)⟩
theorem iX7_write : Cond.instanceMethod mX7_write.1 ∈ gw_ ∧ Cond.selects mX7_write.1.cls mX7_write.1 mX7_write.1 ∈ gw_ := ⟨(tb_in 1162 (by decide +kernel) rfl), (tb_in 1163 (by decide +kernel) rfl)⟩
theorem iX7_count : Cond.instanceMethod mX7_count.1 ∈ gw_ ∧ Cond.selects mX7_count.1.cls mX7_count.1 mX7_count.1 ∈ gw_ := ⟨(tb_in 1166 (by decide +kernel) rfl), (tb_in 1167 (by decide +kernel) rfl)⟩
theorem iX7_tellsShip : Cond.instanceMethod mX7_tellsShip.1 ∈ gw_ ∧ Cond.selects mX7_tellsShip.1.cls mX7_tellsShip.1 mX7_tellsShip.1 ∈ gw_ := ⟨(tb_in 1178 (by decide +kernel) rfl), (sl_in 59 (by decide +kernel) rfl)⟩
theorem iX7_tellsName : Cond.instanceMethod mX7_tellsName.1 ∈ gw_ ∧ Cond.selects mX7_tellsName.1.cls mX7_tellsName.1 mX7_tellsName.1 ∈ gw_ := ⟨(tb_in 1183 (by decide +kernel) rfl), (sl_in 60 (by decide +kernel) rfl)⟩
theorem iX7_digest : Cond.instanceMethod mX7_digest.1 ∈ gw_ ∧ Cond.selects mX7_digest.1.cls mX7_digest.1 mX7_digest.1 ∈ gw_ := ⟨(tb_in 1170 (by decide +kernel) rfl), (tb_in 1171 (by decide +kernel) rfl)⟩
theorem sJ6_bitCount_0f7a4 : Cond.static mJ6_bitCount_0f7a4.1 ∈ gw_ := (tb_in 561 (by decide +kernel) rfl)
theorem sJ9_max_7cf53 : Cond.static mJ9_max_7cf53.1 ∈ gw_ := (tb_in 610 (by decide +kernel) rfl)
theorem sJ9_min_7cf53 : Cond.static mJ9_min_7cf53.1 ∈ gw_ := (tb_in 361 (by decide +kernel) rfl)
theorem iJ0_length_8abf5 : Cond.instanceMethod mJ0_length_8abf5.1 ∈ gw_ ∧ Cond.selects mJ0_length_8abf5.1.cls mJ0_length_8abf5.1 mJ0_length_8abf5.1 ∈ gw_ := ⟨(tb_in 33 (by decide +kernel) rfl), (tb_in 34 (by decide +kernel) rfl)⟩
theorem iJ0_charAt_5068e : Cond.instanceMethod mJ0_charAt_5068e.1 ∈ gw_ ∧ Cond.selects mJ0_charAt_5068e.1.cls mJ0_charAt_5068e.1 mJ0_charAt_5068e.1 ∈ gw_ := ⟨(tb_in 320 (by decide +kernel) rfl), (tb_in 321 (by decide +kernel) rfl)⟩
theorem iJ0_coder_7d493 : Cond.instanceMethod mJ0_coder_7d493.1 ∈ gw_ ∧ Cond.selects mJ0_coder_7d493.1.cls mJ0_coder_7d493.1 mJ0_coder_7d493.1 ∈ gw_ := ⟨(tb_in 37 (by decide +kernel) rfl), (tb_in 38 (by decide +kernel) rfl)⟩
theorem iJ0_isLatin1_aae02 : Cond.instanceMethod mJ0_isLatin1_aae02.1 ∈ gw_ ∧ Cond.selects mJ0_isLatin1_aae02.1.cls mJ0_isLatin1_aae02.1 mJ0_isLatin1_aae02.1 ∈ gw_ := ⟨(tb_in 324 (by decide +kernel) rfl), (tb_in 325 (by decide +kernel) rfl)⟩
theorem sJ0_checkIndex_df160 : Cond.static mJ0_checkIndex_df160.1 ∈ gw_ := (tb_in 331 (by decide +kernel) rfl)
theorem sJ1_charAt_3b067 : Cond.static mJ1_charAt_3b067.1 ∈ gw_ := (tb_in 328 (by decide +kernel) rfl)
theorem sJ2_getChar_3b067 : Cond.static mJ2_getChar_3b067.1 ∈ gw_ := (tb_in 349 (by decide +kernel) rfl)
theorem sJ2_length_9d52b : Cond.static mJ2_length_9d52b.1 ∈ gw_ := (tb_in 345 (by decide +kernel) rfl)
theorem sJ2_charAt_3b067 : Cond.static mJ2_charAt_3b067.1 ∈ gw_ := (tb_in 339 (by decide +kernel) rfl)
theorem sJ2_checkIndex_2214a : Cond.static mJ2_checkIndex_2214a.1 ∈ gw_ := (tb_in 342 (by decide +kernel) rfl)
theorem sJ7_fill_53178 : Cond.static mJ7_fill_53178.1 ∈ gw_ := (tb_in 515 (by decide +kernel) rfl)
theorem sJ3_checkIndex_8e157 : Cond.static mJ3_checkIndex_8e157.1 ∈ gw_ := (tb_in 336 (by decide +kernel) rfl)
theorem kX1_58 : Mk_ RX1 58 Lib.Math.min.name Lib.Math.min.code := ⟨(tb_in 360 (by decide +kernel) rfl), (tb_in 361 (by decide +kernel) rfl), (tb_in 13 (by decide +kernel) rfl), (tb_in 362 (by decide +kernel) rfl)⟩
theorem kX3_60 : Ck_ RX3 60 := ⟨(tb_in 511 (by decide +kernel) rfl), (tb_in 513 (by decide +kernel) rfl), (tb_in 512 (by decide +kernel) rfl), (tb_in 14 (by decide +kernel) rfl)⟩
theorem kX3_99 : Mk_ RX3 99 Lib.Math.min.name Lib.Math.min.code := ⟨(tb_in 526 (by decide +kernel) rfl), (tb_in 361 (by decide +kernel) rfl), (tb_in 13 (by decide +kernel) rfl), (tb_in 362 (by decide +kernel) rfl)⟩
theorem kX0_77 : Mk_ RX0 77 Lib.Math.max.name Lib.Math.max.code := ⟨(tb_in 609 (by decide +kernel) rfl), (tb_in 610 (by decide +kernel) rfl), (tb_in 13 (by decide +kernel) rfl), (tb_in 611 (by decide +kernel) rfl)⟩
theorem kX6_270 : Ck_ RX6 270 := ⟨(tb_in 686 (by decide +kernel) rfl), (tb_in 513 (by decide +kernel) rfl), (tb_in 512 (by decide +kernel) rfl), (tb_in 14 (by decide +kernel) rfl)⟩
theorem kX6_276 : Mk_ RX6 276 Lib.Math.min.name Lib.Math.min.code := ⟨(tb_in 691 (by decide +kernel) rfl), (tb_in 361 (by decide +kernel) rfl), (tb_in 13 (by decide +kernel) rfl), (tb_in 362 (by decide +kernel) rfl)⟩
end
section
/-! ## plain mathematics: loops, sums, bits -/
theorem up_ {P : Nat → Prop} (n : Nat) (hs : ∀ i, i ≤ n → (i + 1 ≤ n → P (i + 1)) → P i) : ∀ i, i ≤ n → P i := by
  intro i hi
  obtain ⟨k, hk⟩ : ∃ k, n - i = k := ⟨_, rfl⟩
  induction k generalizing i with
  | zero => exact hs i hi (fun h => absurd h (by omega))
  | succ k ih => exact hs i hi (fun h => ih (i + 1) h (by omega))
theorem V_cg {l : Launch} {D : Dt_} {y : Mt_} {C : Cp_} {pc : Nat} {ls ls' : List (Option Av_)} {st st' : List Av_} {σ σ' : Mm_} (h : V_ l D y C pc ls st σ) (e1 : ls' = ls) (e2 : st' = st) (e3 : σ' = σ) : V_ l D y C pc ls' st' σ' := by
  subst e1; subst e2; subst e3; exact h
noncomputable def b2_ (p : Prop) : Int := @ite Int p (Classical.propDecidable p) 1 0
theorem b2_t {p : Prop} (h : p) : b2_ p = 1 := by unfold b2_; exact if_pos h
theorem b2_f {p : Prop} (h : ¬ p) : b2_ p = 0 := by unfold b2_; exact if_neg h
theorem b2_rg {p : Prop} : Rg_ (b2_ p) := by
  by_cases h : p
  · rw [b2_t h]; decide
  · rw [b2_f h]; decide
theorem b2_0 {p : Prop} : b2_ p = 0 ↔ ¬ p := by
  by_cases h : p
  · rw [b2_t h]; simp [h]
  · rw [b2_f h]; simp [h]
theorem b2_1 {p : Prop} : b2_ p = 1 ↔ p := by
  by_cases h : p
  · rw [b2_t h]; simp [h]
  · rw [b2_f h]; simp [h]
theorem b2_nar {p : Prop} : narrow .boolean (.int (Int32.ofInt (b2_ p))) = .int (Int32.ofInt (b2_ p)) := by
  by_cases h : p
  · rw [b2_t h]; rfl
  · rw [b2_f h]; rfl
/-- f 0 + .. + f (n - 1) -/
def sm_ (f : Nat → Int) : Nat → Int
  | 0 => 0
  | n + 1 => sm_ f n + f n
/-- f (n - 1) behind .. behind f 0 -/
def fo_ {α : Type} (f : Nat → α → α) : Nat → α → α
  | 0, r => r
  | n + 1, r => f n (fo_ f n r)
/-- how many from 0 on are well, of n -/
def wl_ (ok : Nat → Bool) : Nat → Nat
  | 0 => 0
  | n + 1 => if wl_ ok n = n ∧ ok n = true then n + 1 else wl_ ok n
theorem wl_le (ok : Nat → Bool) : ∀ n, wl_ ok n ≤ n := by
  intro n
  induction n with
  | zero => exact Nat.le_refl _
  | succ n ih => unfold wl_; split <;> omega
theorem wl_ok {ok : Nat → Bool} : ∀ {n i : Nat}, i < wl_ ok n → ok i = true := by
  intro n
  induction n with
  | zero => intro i h; simp [wl_] at h
  | succ n ih =>
    intro i h
    unfold wl_ at h
    split at h
    · rename_i c
      by_cases hi : i = n
      · rw [hi]; exact c.2
      · exact ih (by omega)
    · exact ih h
theorem wl_no {ok : Nat → Bool} : ∀ {n : Nat}, wl_ ok n < n → ok (wl_ ok n) = false := by
  intro n
  induction n with
  | zero => intro h; simp at h
  | succ n ih =>
    intro h
    have hle := wl_le ok n
    by_cases c : wl_ ok n = n ∧ ok n = true
    · have e : wl_ ok (n + 1) = n + 1 := by unfold wl_; exact if_pos c
      omega
    · have e : wl_ ok (n + 1) = wl_ ok n := by rw [wl_]; exact if_neg c
      rw [e]
      by_cases hn : wl_ ok n = n
      · rw [hn]
        cases ho : ok n with
        | true => exact absurd ⟨hn, ho⟩ c
        | false => rfl
      · exact ih (by omega)
theorem wl_at {ok : Nat → Bool} {n i : Nat} (hi : i ≤ n) (h1 : ∀ j, j < i → ok j = true) (h2 : i < n → ok i = false) : wl_ ok n = i := by
  rcases Nat.lt_trichotomy (wl_ ok n) i with h | h | h
  · have := wl_no (ok := ok) (n := n) (by omega)
    rw [h1 _ h] at this; cases this
  · exact h
  · have := wl_ok h
    have hle := wl_le ok n
    rw [h2 (by omega)] at this; cases this
/-! bits -/
def bt_ (s k : Int) : Bool := s.toNat.testBit k.toNat
def so_ (s k : Int) : Int := ((s.toNat ||| 2 ^ k.toNat : Nat) : Int)
theorem i3_n (n : Nat) : Int32.ofInt (n : Int) = nI n := rfl
theorem nI_to {n : Nat} (h : n < 2147483648) : (nI n).toInt = (n : Int) := nI_toInt h
theorem nI_k31 : ∀ k, k < 32 → nI k &&& 31 = nI k := by decide +kernel
theorem nI_smod : ∀ k, k < 32 → ((nI k).toBitVec.smod 32).toNat = k := by decide +kernel
theorem nI_and (a b : Nat) : nI a &&& nI b = nI (a &&& b) := by
  apply Int32.toBitVec_inj.mp
  show BitVec.ofNat 32 a &&& BitVec.ofNat 32 b = BitVec.ofNat 32 (a &&& b)
  rw [BitVec.ofNat_and]
theorem nI_or (a b : Nat) : nI a ||| nI b = nI (a ||| b) := by
  apply Int32.toBitVec_inj.mp
  show BitVec.ofNat 32 a ||| BitVec.ofNat 32 b = BitVec.ofNat 32 (a ||| b)
  rw [BitVec.ofNat_or]
theorem ishr_n {n k : Nat} (hn : n < 2147483648) (hk : k < 32) : ishr_ (n : Int) (k : Int) = ((n / 2 ^ k : Nat) : Int) := by
  unfold ishr_
  rw [i3_n, i3_n, nI_k31 k hk, pk_shrN hn _ k (nI_smod k hk)]
  exact nI_to (Nat.lt_of_le_of_lt (Nat.div_le_self _ _) hn)
theorem iand_n {a b : Nat} (ha : a < 2147483648) : iand_ (a : Int) (b : Int) = ((a &&& b : Nat) : Int) := by
  unfold iand_
  rw [i3_n, i3_n, nI_and]
  exact nI_to (Nat.lt_of_le_of_lt Nat.and_le_left ha)
theorem ior_n {a b : Nat} (ha : a < 2147483648) (hb : b < 2147483648) : ior_ (a : Int) (b : Int) = ((a ||| b : Nat) : Int) := by
  unfold ior_
  rw [i3_n, i3_n, nI_or]
  exact nI_to (Nat.or_lt_two_pow (n := 31) ha hb)
theorem ishl_1 {k : Nat} (hk : k < 31) : ishl_ 1 (k : Int) = ((2 ^ k : Nat) : Int) := by
  unfold ishl_
  have h2 : 2 ^ k < 2147483648 := Nat.pow_lt_pow_of_lt (a := 2) (n := k) (m := 31) (by decide) hk
  rw [show (1 : Int) = ((1 : Nat) : Int) from rfl, i3_n, i3_n, nI_k31 k (by omega), pk_shlN _ k (nI_smod k (by omega)) (by omega), Nat.one_mul]
  exact nI_to h2
theorem i_nat {a : Int} (h : 0 ≤ a) : ∃ n : Nat, a = (n : Int) := Int.eq_ofNat_of_zero_le h
theorem bit_and {s k : Int} (hs : 0 ≤ s ∧ s < 2147483648) (hk : 0 ≤ k ∧ k < 32) : iand_ (ishr_ s k) 1 = if bt_ s k = true then 1 else 0 := by
  obtain ⟨n, rfl⟩ := i_nat hs.1
  obtain ⟨j, rfl⟩ := i_nat hk.1
  rw [ishr_n (by omega) (by omega), show (1 : Int) = ((1 : Nat) : Int) from rfl, iand_n (Nat.lt_of_le_of_lt (Nat.div_le_self _ _) (by omega))]
  have hb : bt_ (n : Int) (j : Int) = decide (n / 2 ^ j % 2 = 1) := by
    unfold bt_
    simp only [Int.toNat_natCast, Nat.testBit_eq_decide_div_mod_eq]
  rw [Nat.and_one_is_mod]
  simp only [hb]
  have h2 : n / 2 ^ j % 2 < 2 := Nat.mod_lt _ (by decide)
  by_cases c : n / 2 ^ j % 2 = 1
  · simp [c]
  · have : n / 2 ^ j % 2 = 0 := by omega
    simp [this]
theorem bit_or {s k : Int} (hs : 0 ≤ s ∧ s < 1073741824) (hk : 0 ≤ k ∧ k < 30) : ior_ s (ishl_ 1 k) = so_ s k := by
  obtain ⟨n, rfl⟩ := i_nat hs.1
  obtain ⟨j, rfl⟩ := i_nat hk.1
  have h2 : 2 ^ j < 1073741824 := Nat.pow_lt_pow_of_lt (a := 2) (n := j) (m := 30) (by decide) (by omega)
  rw [ishl_1 (by omega), ior_n (by omega) (by omega)]
  rfl
theorem or_0 {s : Int} (hs : 0 ≤ s ∧ s < 2147483648) : ior_ s 0 = s := by
  obtain ⟨n, rfl⟩ := i_nat hs.1
  rw [show (0 : Int) = ((0 : Nat) : Int) from rfl, ior_n (by omega) (by decide)]
  simp
theorem so_rg {s k : Int} {m : Nat} (hs : 0 ≤ s ∧ s < ((2 ^ m : Nat) : Int)) (hk : 0 ≤ k ∧ k < m) : 0 ≤ so_ s k ∧ so_ s k < ((2 ^ m : Nat) : Int) := by
  obtain ⟨n, rfl⟩ := i_nat hs.1
  obtain ⟨j, rfl⟩ := i_nat hk.1
  have h1 : n < 2 ^ m := by have := hs.2; omega
  have h2 : 2 ^ j < 2 ^ m := Nat.pow_lt_pow_of_lt (by decide) (by omega)
  unfold so_
  simp only [Int.toNat_natCast]
  have := Nat.or_lt_two_pow h1 h2
  omega
theorem so_bt {s k j : Int} (hj : 0 ≤ j) (hk : 0 ≤ k) : bt_ (so_ s k) j = (bt_ s j || decide (j = k)) := by
  obtain ⟨n, rfl⟩ := i_nat hj
  obtain ⟨m, rfl⟩ := i_nat hk
  unfold bt_ so_
  simp only [Int.toNat_natCast, Nat.testBit_or, Nat.testBit_two_pow]
  congr 1
  by_cases c : n = m
  · simp [c]
  · have h1 : ¬ (m = n) := fun z => c z.symm
    have h2 : ¬ ((n : Int) = (m : Int)) := by omega
    simp [h1, h2]
/-! division -/
theorem idiv_p {a b : Int} (ha : 0 ≤ a ∧ a ≤ 2147483647) (hb : 0 < b ∧ b ≤ 2147483647) : idiv_ a b = a / b := by
  obtain ⟨n, rfl⟩ := i_nat ha.1
  obtain ⟨m, rfl⟩ := i_nat (Int.le_of_lt hb.1)
  unfold idiv_
  rw [i3_n, i3_n, pk_div (by omega) (by omega) (by omega)]
  exact nI_to (Nat.lt_of_le_of_lt (Nat.div_le_self _ _) (by omega))
theorem irem_p {a b : Int} (ha : 0 ≤ a ∧ a ≤ 2147483647) (hb : 0 < b ∧ b ≤ 2147483647) : irem_ a b = a % b := by
  obtain ⟨n, rfl⟩ := i_nat ha.1
  obtain ⟨m, rfl⟩ := i_nat (Int.le_of_lt hb.1)
  unfold irem_
  rw [i3_n, i3_n, pk_rem (by omega) (by omega) (by omega)]
  exact nI_to (Nat.lt_of_le_of_lt (Nat.mod_le _ _) (by omega))
theorem ushr16 (a : Int) : iushr_ a 16 = (a % 4294967296) / 65536 ∧ 0 ≤ iushr_ a 16 ∧ iushr_ a 16 < 65536 := by
  have h1 := pk_ushr (Int32.ofInt a) 16 16 (by decide)
  have h2 : (Int32.ofInt a).toBitVec.toNat = (a % 4294967296).toNat := by
    show (BitVec.ofInt 32 a).toNat = _
    rw [BitVec.toNat_ofInt]
    rfl
  have h3 : 0 ≤ a % 4294967296 ∧ a % 4294967296 < 4294967296 := ⟨Int.emod_nonneg _ (by decide), Int.emod_lt_of_pos _ (by decide)⟩
  have h4 : iushr_ a 16 = (((Int32.ofInt a).toUInt32 >>> ((16 : Int32).toUInt32 &&& Int32.toUInt32 31)).toInt32).toInt := rfl
  generalize (((Int32.ofInt a).toUInt32 >>> ((16 : Int32).toUInt32 &&& Int32.toUInt32 31)).toInt32) = x at h1 h4
  rw [h2] at h1
  have h5 : x.toInt = (x.toBitVec.toNat : Int) := by
    show x.toBitVec.toInt = _
    rw [BitVec.toInt_eq_toNat_of_lt]
    rw [h1]
    omega
  rw [h4, h5, h1]
  omega
end
section
/-! ## String constants: length, charAt; Arrays.fill, Integer.bitCount -/
section VSTRROWS
variable {l : Launch} {D : Dt_} {y : Mt_} {C : Cp_} {pc : Nat} {ls : List (Option Av_)} {st : List Av_} {σ : Mm_}
theorem V_getCS {idx : Nat} (hd : decode y.2.1 pc = .ok (.getstatic idx, 3)) (hk : Cond.fieldLink y.1.cls idx "java/lang/String" "COMPACT_STRINGS" "Z" ∈ gw_) (h : V_ l D y C (pc + 3) ls (vi_ 1 :: st) σ) : V_ l D y C pc ls st σ := by
  intro hR p e R s m args below meth c cells slots Q hC B H locs lsA hP hS hl
  exact va_gets B.1 B.2.1 B.2.2.2.2.2.2.2.2.2.2.2.1 hS B.2.2.2.2.1 (B.2.2.2.2.2.1 _ hk) (fun _ z => z) hd (h hR p e R s m args below meth c cells slots Q hC B H locs lsA hP hS hl)
theorem V_getFm {idx : Nat} (hd : decode y.2.1 pc = .ok (.getstatic idx, 3)) (hk : Cond.fieldLink y.1.cls idx "jdk/internal/util/Preconditions" "SIOOBE_FORMATTER" "Ljava/util/function/BiFunction;" ∈ gw_) (h : ∀ v : Option Nat, V_ l D y C (pc + 3) ls (.inr (.inr v) :: st) σ) : V_ l D y C pc ls st σ := by
  intro hR p e R s m args below meth c cells slots Q hC B H locs lsA hP hS hl
  rcases B.2.2.2.2.2.2.2.2.2.2.2.2 with z | z
  · exact va_gets B.1 B.2.1 z hS B.2.2.2.2.1 (B.2.2.2.2.2.1 _ hk) (fun _ z => z) hd (h none hR p e R s m args below meth c cells slots Q hC B H locs lsA hP hS hl)
  · exact va_gets B.1 B.2.1 z hS B.2.2.2.2.1 (B.2.2.2.2.2.1 _ hk) (fun _ z => z) hd (h (some 120) hR p e R s m args below meth c cells slots Q hC B H locs lsA hP hS hl)
theorem V_strC {idx i : Nat} (hd : decode y.2.1 pc = .ok (.getfield idx, 3)) (hk : Cond.fieldLink y.1.cls idx "java/lang/String" "coder" "B" ∈ gw_) (hi : i < 3) (h : V_ l D y C (pc + 3) ls (vi_ 0 :: st) σ) : V_ l D y C pc ls (vr_ (100 + i) :: st) σ := by
  intro hR p e R s m args below meth c cells slots Q hC B H locs lsA hP hS hl
  exact vk_getf B.1 B.2.1 (B.2.2.2.2.2.2.2.2.2.2.1.1 i hi).2.1 hS B.2.2.2.2.1 (B.2.2.2.2.2.1 _ hk) (fun _ z => z) hd (h hR p e R s m args below meth c cells slots Q hC B H locs lsA hP hS hl)
theorem V_strV {idx i : Nat} (hd : decode y.2.1 pc = .ok (.getfield idx, 3)) (hk : Cond.fieldLink y.1.cls idx "java/lang/String" "value" "[B" ∈ gw_) (hi : i < 3) (h : V_ l D y C (pc + 3) ls (vr_ (110 + i) :: st) σ) : V_ l D y C pc ls (vr_ (100 + i) :: st) σ := by
  intro hR p e R s m args below meth c cells slots Q hC B H locs lsA hP hS hl
  exact vk_getf B.1 B.2.1 (B.2.2.2.2.2.2.2.2.2.2.1.1 i hi).2.2.1 hS B.2.2.2.2.1 (B.2.2.2.2.2.1 _ hk) (fun _ z => z) hd (h hR p e R s m args below meth c cells slots Q hC B H locs lsA hP hS hl)
theorem V_strL {i : Nat} {n : Int} (hd : decode y.2.1 pc = .ok (.arraylength, 1)) (hi : i < 3) (hn : Int32.ofNat ([3, 4, 4].getD i 0) = Int32.ofInt n) (h : V_ l D y C (pc + 1) ls (vi_ n :: st) σ) : V_ l D y C pc ls (vr_ (110 + i) :: st) σ := by
  intro hR p e R s m args below meth c cells slots Q hC B H locs lsA hP hS hl
  exact va_tlen B.1 B.2.1 (B.2.2.2.2.2.2.2.2.2.2.1.1 i hi).2.2.2 hS hn hd (h hR p e R s m args below meth c cells slots Q hC B H locs lsA hP hS hl)
theorem V_strB {i : Nat} {j z : Int} (hd : decode y.2.1 pc = .ok (.baload, 1)) (hi : i < 3) (hj : vp_in (Int32.ofInt j) ([3, 4, 4].getD i 0)) (hz : Value.int ((([[57, 49, 57], [57, 57, 108, 46], [53, 97, 57, 49]] : List (List Int32)).getD i []).getD (Int32.ofInt j).toNatClampNeg 0) = .int (Int32.ofInt z)) (h : V_ l D y C (pc + 1) ls (vi_ z :: st) σ) : V_ l D y C pc ls (vi_ j :: vr_ (110 + i) :: st) σ := by
  intro hR p e R s m args below meth c cells slots Q hC B H locs lsA hP hS hl
  exact va_tb B.1 B.2.1 (B.2.2.2.2.2.2.2.2.2.2.1.1 i hi).2.2.2 hS hj hz hd (h hR p e R s m args below meth c cells slots Q hC B H locs lsA hP hS hl)
theorem V_i2c {a : Int} (hd : decode y.2.1 pc = .ok (.i2c, 1)) (h : V_ l D y C (pc + 1) ls (vi_ (i2c_ a) :: st) σ) : V_ l D y C pc ls (vi_ a :: st) σ := by
  intro hR p e R s m args below meth c cells slots Q hC B H locs lsA hP hS hl
  exact lv_i2c B.1 B.2.1 hd (v := Int32.ofInt (i2c_ a)) (by unfold i2c_; rw [i3_of]) (h hR p e R s m args below meth c cells slots Q hC B H locs lsA hP hS hl)
end VSTRROWS
section
variable {l : Launch} {D : Dt_} {σ : Mm_} {post : Option Av_ → Mm_ → Prop}
theorem ct_J3_checkIndex_8e157 {i n : Int} {v : Option Nat} (hi : 0 ≤ i) (hin : i < n) (hn : n ≤ 2147483647) (h : post (some (vi_ i)) σ) : V_ l D mJ3_checkIndex_8e157 (CM_ D mJ3_checkIndex_8e157 post) 0 [some (vi_ i), some (vi_ n), some (.inr (.inr v))] [] σ := by
  refine V_iload_n (pc := 0) dJ3_checkIndex_8e157_0 rfl rfl ?_
  refine V_if_lt (tgt := 9) (pc := 1) dJ3_checkIndex_8e157_1 (by decide) (by first | assumption | decide | omega) (fun h1 => ?_) (fun h1 => ?_)
  · skip
    omega
  · skip
    refine V_iload_n (pc := 4) dJ3_checkIndex_8e157_4 rfl rfl ?_
    refine V_iload_n (pc := 5) dJ3_checkIndex_8e157_5 rfl rfl ?_
    refine V_icmp_lt (tgt := 16) (pc := 6) dJ3_checkIndex_8e157_6 (by decide) (by first | assumption | decide | omega) (by first | assumption | decide | omega) (fun h6 => ?_) (fun h6 => ?_)
    · skip
      refine V_iload_n (pc := 16) dJ3_checkIndex_8e157_16 rfl rfl ?_
      refine V_ireturn (pc := 17) dJ3_checkIndex_8e157_17 rfl rfl (fun hR => ?_)
      exact h
    · skip
      omega
theorem ct_J0_checkIndex_df160 {i n : Int} (hi : 0 ≤ i) (hin : i < n) (hn : n ≤ 2147483647) (h : post none σ) : V_ l D mJ0_checkIndex_df160 (CM_ D mJ0_checkIndex_df160 post) 0 [some (vi_ i), some (vi_ n)] [] σ := by
  refine V_iload_n (pc := 0) dJ0_checkIndex_df160_0 rfl rfl ?_
  refine V_iload_n (pc := 1) dJ0_checkIndex_df160_1 rfl rfl ?_
  refine V_getFm (pc := 2) dJ0_checkIndex_df160_2 (tb_in 333 (by decide +kernel) rfl) (fun v => ?_)
  refine V_callS (pc := 5) (as := [_, _, _]) (rest := []) dJ0_checkIndex_df160_5 ⟨kJ0_1059, sJ3_checkIndex_8e157, by decide, by decide⟩ rfl rfl (Nat.le_of_ble_eq_true rfl) (Nat.le_of_ble_eq_true rfl) ?_
  refine ct_J3_checkIndex_8e157 (by assumption) (by assumption) (by assumption) ?_
  show V_ _ _ _ _ _ _ [_] _
  refine V_pop (pc := 8) dJ0_checkIndex_df160_8 rfl ?_
  refine V_return (pc := 9) dJ0_checkIndex_df160_9 rfl (fun hR => ?_)
  exact h
theorem ct_J0_coder_0 (h : post (some (vi_ 0)) σ) : V_ l D mJ0_coder_7d493 (CM_ D mJ0_coder_7d493 post) 0 [some (vr_ 100)] [] σ := by
  refine V_getCS (pc := 0) dJ0_coder_7d493_0 (tb_in 40 (by decide +kernel) rfl) ?_
  refine V_if_eq (tgt := 13) (pc := 3) dJ0_coder_7d493_3 (by decide) (by first | assumption | decide | omega) (fun h3 => ?_) (fun h3 => ?_)
  · skip
    omega
  · skip
    refine V_aload_n (pc := 6) dJ0_coder_7d493_6 rfl rfl ?_
    refine V_strC (i := 0) (pc := 7) dJ0_coder_7d493_7 (tb_in 1187 (by decide +kernel) rfl) (by decide) ?_
    refine V_goto (tgt := 14) (pc := 10) dJ0_coder_7d493_10 (by decide) ?_
    refine V_ireturn (pc := 14) dJ0_coder_7d493_14 rfl rfl (fun hR => ?_)
    exact h
theorem ct_J0_isLatin1_0 (h : post (some (vi_ 1)) σ) : V_ l D mJ0_isLatin1_aae02 (CM_ D mJ0_isLatin1_aae02 post) 0 [some (vr_ 100)] [] σ := by
  refine V_getCS (pc := 0) dJ0_isLatin1_aae02_0 (tb_in 40 (by decide +kernel) rfl) ?_
  refine V_if_eq (tgt := 17) (pc := 3) dJ0_isLatin1_aae02_3 (by decide) (by first | assumption | decide | omega) (fun h3 => ?_) (fun h3 => ?_)
  · skip
    omega
  · skip
    refine V_aload_n (pc := 6) dJ0_isLatin1_aae02_6 rfl rfl ?_
    refine V_strC (i := 0) (pc := 7) dJ0_isLatin1_aae02_7 (tb_in 1187 (by decide +kernel) rfl) (by decide) ?_
    refine V_if_ne (tgt := 17) (pc := 10) dJ0_isLatin1_aae02_10 (by decide) (by first | assumption | decide | omega) (fun h10 => ?_) (fun h10 => ?_)
    · skip
      omega
    · skip
      refine V_iconst (pc := 13) dJ0_isLatin1_aae02_13 ?_
      refine V_goto (tgt := 18) (pc := 14) dJ0_isLatin1_aae02_14 (by decide) ?_
      refine V_ireturn (pc := 18) dJ0_isLatin1_aae02_18 rfl rfl (fun hR => ?_)
      exact h
theorem ct_J0_length_0 (h : post (some (vi_ 3)) σ) : V_ l D mJ0_length_8abf5 (CM_ D mJ0_length_8abf5 post) 0 [some (vr_ 100)] [] σ := by
  refine V_aload_n (pc := 0) dJ0_length_8abf5_0 rfl rfl ?_
  refine V_strV (i := 0) (pc := 1) dJ0_length_8abf5_1 (tb_in 1186 (by decide +kernel) rfl) (by decide) ?_
  refine V_strL (i := 0) (n := 3) (pc := 4) dJ0_length_8abf5_4 (by decide) rfl ?_
  refine V_aload_n (pc := 5) dJ0_length_8abf5_5 rfl rfl ?_
  refine V_callV (pc := 6) (as := []) (rest := [_]) dJ0_length_8abf5_6 ⟨kJ0_335, iJ0_coder_7d493, by decide, by decide⟩ rc_100 rfl rfl (Nat.le_of_ble_eq_true rfl) (Nat.le_of_ble_eq_true rfl) ?_
  refine ct_J0_coder_0 ?_
  show V_ _ _ _ _ _ _ [_, _] _
  refine V_ishr (pc := 9) dJ0_length_8abf5_9 ?_
  refine V_ireturn (pc := 10) dJ0_length_8abf5_10 rfl rfl (fun hR => ?_)
  exact h
theorem ct_J1_charAt_0_0 (h : post (some (vi_ 57)) σ) : V_ l D mJ1_charAt_3b067 (CM_ D mJ1_charAt_3b067 post) 0 [some (vr_ 110), some (vi_ 0)] [] σ := by
  refine V_iload_n (pc := 0) dJ1_charAt_3b067_0 rfl rfl ?_
  refine V_aload_n (pc := 1) dJ1_charAt_3b067_1 rfl rfl ?_
  refine V_strL (i := 0) (n := 3) (pc := 2) dJ1_charAt_3b067_2 (by decide) rfl ?_
  refine V_callS (pc := 3) (as := [_, _]) (rest := []) dJ1_charAt_3b067_3 ⟨kJ1_9, sJ0_checkIndex_df160, by decide, by decide⟩ rfl rfl (Nat.le_of_ble_eq_true rfl) (Nat.le_of_ble_eq_true rfl) ?_
  refine ct_J0_checkIndex_df160 (by decide) (by decide) (by decide) ?_
  show V_ _ _ _ _ _ _ [] _
  refine V_aload_n (pc := 6) dJ1_charAt_3b067_6 rfl rfl ?_
  refine V_iload_n (pc := 7) dJ1_charAt_3b067_7 rfl rfl ?_
  refine V_strB (i := 0) (z := 57) (pc := 8) dJ1_charAt_3b067_8 (by decide) (i3_in (by decide) (by decide) (by decide)) rfl ?_
  refine V_sipush (pc := 9) dJ1_charAt_3b067_9 (by decide) ?_
  refine V_iand (pc := 12) dJ1_charAt_3b067_12 ?_
  refine V_i2c (pc := 13) dJ1_charAt_3b067_13 ?_
  refine V_ireturn (pc := 14) dJ1_charAt_3b067_14 rfl rfl (fun hR => ?_)
  exact h
theorem ct_J0_charAt_0_0 (h : post (some (vi_ 57)) σ) : V_ l D mJ0_charAt_5068e (CM_ D mJ0_charAt_5068e post) 0 [some (vr_ 100), some (vi_ 0)] [] σ := by
  refine V_aload_n (pc := 0) dJ0_charAt_5068e_0 rfl rfl ?_
  refine V_callV (pc := 1) (as := []) (rest := []) dJ0_charAt_5068e_1 ⟨kJ0_492, iJ0_isLatin1_aae02, by decide, by decide⟩ rc_100 rfl rfl (Nat.le_of_ble_eq_true rfl) (Nat.le_of_ble_eq_true rfl) ?_
  refine ct_J0_isLatin1_0 ?_
  show V_ _ _ _ _ _ _ [_] _
  refine V_if_eq (tgt := 16) (pc := 4) dJ0_charAt_5068e_4 (by decide) (by first | assumption | decide | omega) (fun h4 => ?_) (fun h4 => ?_)
  · skip
    omega
  · skip
    refine V_aload_n (pc := 7) dJ0_charAt_5068e_7 rfl rfl ?_
    refine V_strV (i := 0) (pc := 8) dJ0_charAt_5068e_8 (tb_in 1186 (by decide +kernel) rfl) (by decide) ?_
    refine V_iload_n (pc := 11) dJ0_charAt_5068e_11 rfl rfl ?_
    refine V_callS (pc := 12) (as := [_, _]) (rest := []) dJ0_charAt_5068e_12 ⟨kJ0_495, sJ1_charAt_3b067, by decide, by decide⟩ rfl rfl (Nat.le_of_ble_eq_true rfl) (Nat.le_of_ble_eq_true rfl) ?_
    refine ct_J1_charAt_0_0 ?_
    show V_ _ _ _ _ _ _ [_] _
    refine V_ireturn (pc := 15) dJ0_charAt_5068e_15 rfl rfl (fun hR => ?_)
    exact h
theorem ct_J1_charAt_0_1 (h : post (some (vi_ 49)) σ) : V_ l D mJ1_charAt_3b067 (CM_ D mJ1_charAt_3b067 post) 0 [some (vr_ 110), some (vi_ 1)] [] σ := by
  refine V_iload_n (pc := 0) dJ1_charAt_3b067_0 rfl rfl ?_
  refine V_aload_n (pc := 1) dJ1_charAt_3b067_1 rfl rfl ?_
  refine V_strL (i := 0) (n := 3) (pc := 2) dJ1_charAt_3b067_2 (by decide) rfl ?_
  refine V_callS (pc := 3) (as := [_, _]) (rest := []) dJ1_charAt_3b067_3 ⟨kJ1_9, sJ0_checkIndex_df160, by decide, by decide⟩ rfl rfl (Nat.le_of_ble_eq_true rfl) (Nat.le_of_ble_eq_true rfl) ?_
  refine ct_J0_checkIndex_df160 (by decide) (by decide) (by decide) ?_
  show V_ _ _ _ _ _ _ [] _
  refine V_aload_n (pc := 6) dJ1_charAt_3b067_6 rfl rfl ?_
  refine V_iload_n (pc := 7) dJ1_charAt_3b067_7 rfl rfl ?_
  refine V_strB (i := 0) (z := 49) (pc := 8) dJ1_charAt_3b067_8 (by decide) (i3_in (by decide) (by decide) (by decide)) rfl ?_
  refine V_sipush (pc := 9) dJ1_charAt_3b067_9 (by decide) ?_
  refine V_iand (pc := 12) dJ1_charAt_3b067_12 ?_
  refine V_i2c (pc := 13) dJ1_charAt_3b067_13 ?_
  refine V_ireturn (pc := 14) dJ1_charAt_3b067_14 rfl rfl (fun hR => ?_)
  exact h
theorem ct_J0_charAt_0_1 (h : post (some (vi_ 49)) σ) : V_ l D mJ0_charAt_5068e (CM_ D mJ0_charAt_5068e post) 0 [some (vr_ 100), some (vi_ 1)] [] σ := by
  refine V_aload_n (pc := 0) dJ0_charAt_5068e_0 rfl rfl ?_
  refine V_callV (pc := 1) (as := []) (rest := []) dJ0_charAt_5068e_1 ⟨kJ0_492, iJ0_isLatin1_aae02, by decide, by decide⟩ rc_100 rfl rfl (Nat.le_of_ble_eq_true rfl) (Nat.le_of_ble_eq_true rfl) ?_
  refine ct_J0_isLatin1_0 ?_
  show V_ _ _ _ _ _ _ [_] _
  refine V_if_eq (tgt := 16) (pc := 4) dJ0_charAt_5068e_4 (by decide) (by first | assumption | decide | omega) (fun h4 => ?_) (fun h4 => ?_)
  · skip
    omega
  · skip
    refine V_aload_n (pc := 7) dJ0_charAt_5068e_7 rfl rfl ?_
    refine V_strV (i := 0) (pc := 8) dJ0_charAt_5068e_8 (tb_in 1186 (by decide +kernel) rfl) (by decide) ?_
    refine V_iload_n (pc := 11) dJ0_charAt_5068e_11 rfl rfl ?_
    refine V_callS (pc := 12) (as := [_, _]) (rest := []) dJ0_charAt_5068e_12 ⟨kJ0_495, sJ1_charAt_3b067, by decide, by decide⟩ rfl rfl (Nat.le_of_ble_eq_true rfl) (Nat.le_of_ble_eq_true rfl) ?_
    refine ct_J1_charAt_0_1 ?_
    show V_ _ _ _ _ _ _ [_] _
    refine V_ireturn (pc := 15) dJ0_charAt_5068e_15 rfl rfl (fun hR => ?_)
    exact h
theorem ct_J1_charAt_0_2 (h : post (some (vi_ 57)) σ) : V_ l D mJ1_charAt_3b067 (CM_ D mJ1_charAt_3b067 post) 0 [some (vr_ 110), some (vi_ 2)] [] σ := by
  refine V_iload_n (pc := 0) dJ1_charAt_3b067_0 rfl rfl ?_
  refine V_aload_n (pc := 1) dJ1_charAt_3b067_1 rfl rfl ?_
  refine V_strL (i := 0) (n := 3) (pc := 2) dJ1_charAt_3b067_2 (by decide) rfl ?_
  refine V_callS (pc := 3) (as := [_, _]) (rest := []) dJ1_charAt_3b067_3 ⟨kJ1_9, sJ0_checkIndex_df160, by decide, by decide⟩ rfl rfl (Nat.le_of_ble_eq_true rfl) (Nat.le_of_ble_eq_true rfl) ?_
  refine ct_J0_checkIndex_df160 (by decide) (by decide) (by decide) ?_
  show V_ _ _ _ _ _ _ [] _
  refine V_aload_n (pc := 6) dJ1_charAt_3b067_6 rfl rfl ?_
  refine V_iload_n (pc := 7) dJ1_charAt_3b067_7 rfl rfl ?_
  refine V_strB (i := 0) (z := 57) (pc := 8) dJ1_charAt_3b067_8 (by decide) (i3_in (by decide) (by decide) (by decide)) rfl ?_
  refine V_sipush (pc := 9) dJ1_charAt_3b067_9 (by decide) ?_
  refine V_iand (pc := 12) dJ1_charAt_3b067_12 ?_
  refine V_i2c (pc := 13) dJ1_charAt_3b067_13 ?_
  refine V_ireturn (pc := 14) dJ1_charAt_3b067_14 rfl rfl (fun hR => ?_)
  exact h
theorem ct_J0_charAt_0_2 (h : post (some (vi_ 57)) σ) : V_ l D mJ0_charAt_5068e (CM_ D mJ0_charAt_5068e post) 0 [some (vr_ 100), some (vi_ 2)] [] σ := by
  refine V_aload_n (pc := 0) dJ0_charAt_5068e_0 rfl rfl ?_
  refine V_callV (pc := 1) (as := []) (rest := []) dJ0_charAt_5068e_1 ⟨kJ0_492, iJ0_isLatin1_aae02, by decide, by decide⟩ rc_100 rfl rfl (Nat.le_of_ble_eq_true rfl) (Nat.le_of_ble_eq_true rfl) ?_
  refine ct_J0_isLatin1_0 ?_
  show V_ _ _ _ _ _ _ [_] _
  refine V_if_eq (tgt := 16) (pc := 4) dJ0_charAt_5068e_4 (by decide) (by first | assumption | decide | omega) (fun h4 => ?_) (fun h4 => ?_)
  · skip
    omega
  · skip
    refine V_aload_n (pc := 7) dJ0_charAt_5068e_7 rfl rfl ?_
    refine V_strV (i := 0) (pc := 8) dJ0_charAt_5068e_8 (tb_in 1186 (by decide +kernel) rfl) (by decide) ?_
    refine V_iload_n (pc := 11) dJ0_charAt_5068e_11 rfl rfl ?_
    refine V_callS (pc := 12) (as := [_, _]) (rest := []) dJ0_charAt_5068e_12 ⟨kJ0_495, sJ1_charAt_3b067, by decide, by decide⟩ rfl rfl (Nat.le_of_ble_eq_true rfl) (Nat.le_of_ble_eq_true rfl) ?_
    refine ct_J1_charAt_0_2 ?_
    show V_ _ _ _ _ _ _ [_] _
    refine V_ireturn (pc := 15) dJ0_charAt_5068e_15 rfl rfl (fun hR => ?_)
    exact h
theorem ct_J0_coder_1 (h : post (some (vi_ 0)) σ) : V_ l D mJ0_coder_7d493 (CM_ D mJ0_coder_7d493 post) 0 [some (vr_ 101)] [] σ := by
  refine V_getCS (pc := 0) dJ0_coder_7d493_0 (tb_in 40 (by decide +kernel) rfl) ?_
  refine V_if_eq (tgt := 13) (pc := 3) dJ0_coder_7d493_3 (by decide) (by first | assumption | decide | omega) (fun h3 => ?_) (fun h3 => ?_)
  · skip
    omega
  · skip
    refine V_aload_n (pc := 6) dJ0_coder_7d493_6 rfl rfl ?_
    refine V_strC (i := 1) (pc := 7) dJ0_coder_7d493_7 (tb_in 1187 (by decide +kernel) rfl) (by decide) ?_
    refine V_goto (tgt := 14) (pc := 10) dJ0_coder_7d493_10 (by decide) ?_
    refine V_ireturn (pc := 14) dJ0_coder_7d493_14 rfl rfl (fun hR => ?_)
    exact h
theorem ct_J0_isLatin1_1 (h : post (some (vi_ 1)) σ) : V_ l D mJ0_isLatin1_aae02 (CM_ D mJ0_isLatin1_aae02 post) 0 [some (vr_ 101)] [] σ := by
  refine V_getCS (pc := 0) dJ0_isLatin1_aae02_0 (tb_in 40 (by decide +kernel) rfl) ?_
  refine V_if_eq (tgt := 17) (pc := 3) dJ0_isLatin1_aae02_3 (by decide) (by first | assumption | decide | omega) (fun h3 => ?_) (fun h3 => ?_)
  · skip
    omega
  · skip
    refine V_aload_n (pc := 6) dJ0_isLatin1_aae02_6 rfl rfl ?_
    refine V_strC (i := 1) (pc := 7) dJ0_isLatin1_aae02_7 (tb_in 1187 (by decide +kernel) rfl) (by decide) ?_
    refine V_if_ne (tgt := 17) (pc := 10) dJ0_isLatin1_aae02_10 (by decide) (by first | assumption | decide | omega) (fun h10 => ?_) (fun h10 => ?_)
    · skip
      omega
    · skip
      refine V_iconst (pc := 13) dJ0_isLatin1_aae02_13 ?_
      refine V_goto (tgt := 18) (pc := 14) dJ0_isLatin1_aae02_14 (by decide) ?_
      refine V_ireturn (pc := 18) dJ0_isLatin1_aae02_18 rfl rfl (fun hR => ?_)
      exact h
theorem ct_J0_length_1 (h : post (some (vi_ 4)) σ) : V_ l D mJ0_length_8abf5 (CM_ D mJ0_length_8abf5 post) 0 [some (vr_ 101)] [] σ := by
  refine V_aload_n (pc := 0) dJ0_length_8abf5_0 rfl rfl ?_
  refine V_strV (i := 1) (pc := 1) dJ0_length_8abf5_1 (tb_in 1186 (by decide +kernel) rfl) (by decide) ?_
  refine V_strL (i := 1) (n := 4) (pc := 4) dJ0_length_8abf5_4 (by decide) rfl ?_
  refine V_aload_n (pc := 5) dJ0_length_8abf5_5 rfl rfl ?_
  refine V_callV (pc := 6) (as := []) (rest := [_]) dJ0_length_8abf5_6 ⟨kJ0_335, iJ0_coder_7d493, by decide, by decide⟩ rc_101 rfl rfl (Nat.le_of_ble_eq_true rfl) (Nat.le_of_ble_eq_true rfl) ?_
  refine ct_J0_coder_1 ?_
  show V_ _ _ _ _ _ _ [_, _] _
  refine V_ishr (pc := 9) dJ0_length_8abf5_9 ?_
  refine V_ireturn (pc := 10) dJ0_length_8abf5_10 rfl rfl (fun hR => ?_)
  exact h
theorem ct_J1_charAt_1_0 (h : post (some (vi_ 57)) σ) : V_ l D mJ1_charAt_3b067 (CM_ D mJ1_charAt_3b067 post) 0 [some (vr_ 111), some (vi_ 0)] [] σ := by
  refine V_iload_n (pc := 0) dJ1_charAt_3b067_0 rfl rfl ?_
  refine V_aload_n (pc := 1) dJ1_charAt_3b067_1 rfl rfl ?_
  refine V_strL (i := 1) (n := 4) (pc := 2) dJ1_charAt_3b067_2 (by decide) rfl ?_
  refine V_callS (pc := 3) (as := [_, _]) (rest := []) dJ1_charAt_3b067_3 ⟨kJ1_9, sJ0_checkIndex_df160, by decide, by decide⟩ rfl rfl (Nat.le_of_ble_eq_true rfl) (Nat.le_of_ble_eq_true rfl) ?_
  refine ct_J0_checkIndex_df160 (by decide) (by decide) (by decide) ?_
  show V_ _ _ _ _ _ _ [] _
  refine V_aload_n (pc := 6) dJ1_charAt_3b067_6 rfl rfl ?_
  refine V_iload_n (pc := 7) dJ1_charAt_3b067_7 rfl rfl ?_
  refine V_strB (i := 1) (z := 57) (pc := 8) dJ1_charAt_3b067_8 (by decide) (i3_in (by decide) (by decide) (by decide)) rfl ?_
  refine V_sipush (pc := 9) dJ1_charAt_3b067_9 (by decide) ?_
  refine V_iand (pc := 12) dJ1_charAt_3b067_12 ?_
  refine V_i2c (pc := 13) dJ1_charAt_3b067_13 ?_
  refine V_ireturn (pc := 14) dJ1_charAt_3b067_14 rfl rfl (fun hR => ?_)
  exact h
theorem ct_J0_charAt_1_0 (h : post (some (vi_ 57)) σ) : V_ l D mJ0_charAt_5068e (CM_ D mJ0_charAt_5068e post) 0 [some (vr_ 101), some (vi_ 0)] [] σ := by
  refine V_aload_n (pc := 0) dJ0_charAt_5068e_0 rfl rfl ?_
  refine V_callV (pc := 1) (as := []) (rest := []) dJ0_charAt_5068e_1 ⟨kJ0_492, iJ0_isLatin1_aae02, by decide, by decide⟩ rc_101 rfl rfl (Nat.le_of_ble_eq_true rfl) (Nat.le_of_ble_eq_true rfl) ?_
  refine ct_J0_isLatin1_1 ?_
  show V_ _ _ _ _ _ _ [_] _
  refine V_if_eq (tgt := 16) (pc := 4) dJ0_charAt_5068e_4 (by decide) (by first | assumption | decide | omega) (fun h4 => ?_) (fun h4 => ?_)
  · skip
    omega
  · skip
    refine V_aload_n (pc := 7) dJ0_charAt_5068e_7 rfl rfl ?_
    refine V_strV (i := 1) (pc := 8) dJ0_charAt_5068e_8 (tb_in 1186 (by decide +kernel) rfl) (by decide) ?_
    refine V_iload_n (pc := 11) dJ0_charAt_5068e_11 rfl rfl ?_
    refine V_callS (pc := 12) (as := [_, _]) (rest := []) dJ0_charAt_5068e_12 ⟨kJ0_495, sJ1_charAt_3b067, by decide, by decide⟩ rfl rfl (Nat.le_of_ble_eq_true rfl) (Nat.le_of_ble_eq_true rfl) ?_
    refine ct_J1_charAt_1_0 ?_
    show V_ _ _ _ _ _ _ [_] _
    refine V_ireturn (pc := 15) dJ0_charAt_5068e_15 rfl rfl (fun hR => ?_)
    exact h
theorem ct_J1_charAt_1_1 (h : post (some (vi_ 57)) σ) : V_ l D mJ1_charAt_3b067 (CM_ D mJ1_charAt_3b067 post) 0 [some (vr_ 111), some (vi_ 1)] [] σ := by
  refine V_iload_n (pc := 0) dJ1_charAt_3b067_0 rfl rfl ?_
  refine V_aload_n (pc := 1) dJ1_charAt_3b067_1 rfl rfl ?_
  refine V_strL (i := 1) (n := 4) (pc := 2) dJ1_charAt_3b067_2 (by decide) rfl ?_
  refine V_callS (pc := 3) (as := [_, _]) (rest := []) dJ1_charAt_3b067_3 ⟨kJ1_9, sJ0_checkIndex_df160, by decide, by decide⟩ rfl rfl (Nat.le_of_ble_eq_true rfl) (Nat.le_of_ble_eq_true rfl) ?_
  refine ct_J0_checkIndex_df160 (by decide) (by decide) (by decide) ?_
  show V_ _ _ _ _ _ _ [] _
  refine V_aload_n (pc := 6) dJ1_charAt_3b067_6 rfl rfl ?_
  refine V_iload_n (pc := 7) dJ1_charAt_3b067_7 rfl rfl ?_
  refine V_strB (i := 1) (z := 57) (pc := 8) dJ1_charAt_3b067_8 (by decide) (i3_in (by decide) (by decide) (by decide)) rfl ?_
  refine V_sipush (pc := 9) dJ1_charAt_3b067_9 (by decide) ?_
  refine V_iand (pc := 12) dJ1_charAt_3b067_12 ?_
  refine V_i2c (pc := 13) dJ1_charAt_3b067_13 ?_
  refine V_ireturn (pc := 14) dJ1_charAt_3b067_14 rfl rfl (fun hR => ?_)
  exact h
theorem ct_J0_charAt_1_1 (h : post (some (vi_ 57)) σ) : V_ l D mJ0_charAt_5068e (CM_ D mJ0_charAt_5068e post) 0 [some (vr_ 101), some (vi_ 1)] [] σ := by
  refine V_aload_n (pc := 0) dJ0_charAt_5068e_0 rfl rfl ?_
  refine V_callV (pc := 1) (as := []) (rest := []) dJ0_charAt_5068e_1 ⟨kJ0_492, iJ0_isLatin1_aae02, by decide, by decide⟩ rc_101 rfl rfl (Nat.le_of_ble_eq_true rfl) (Nat.le_of_ble_eq_true rfl) ?_
  refine ct_J0_isLatin1_1 ?_
  show V_ _ _ _ _ _ _ [_] _
  refine V_if_eq (tgt := 16) (pc := 4) dJ0_charAt_5068e_4 (by decide) (by first | assumption | decide | omega) (fun h4 => ?_) (fun h4 => ?_)
  · skip
    omega
  · skip
    refine V_aload_n (pc := 7) dJ0_charAt_5068e_7 rfl rfl ?_
    refine V_strV (i := 1) (pc := 8) dJ0_charAt_5068e_8 (tb_in 1186 (by decide +kernel) rfl) (by decide) ?_
    refine V_iload_n (pc := 11) dJ0_charAt_5068e_11 rfl rfl ?_
    refine V_callS (pc := 12) (as := [_, _]) (rest := []) dJ0_charAt_5068e_12 ⟨kJ0_495, sJ1_charAt_3b067, by decide, by decide⟩ rfl rfl (Nat.le_of_ble_eq_true rfl) (Nat.le_of_ble_eq_true rfl) ?_
    refine ct_J1_charAt_1_1 ?_
    show V_ _ _ _ _ _ _ [_] _
    refine V_ireturn (pc := 15) dJ0_charAt_5068e_15 rfl rfl (fun hR => ?_)
    exact h
theorem ct_J1_charAt_1_2 (h : post (some (vi_ 108)) σ) : V_ l D mJ1_charAt_3b067 (CM_ D mJ1_charAt_3b067 post) 0 [some (vr_ 111), some (vi_ 2)] [] σ := by
  refine V_iload_n (pc := 0) dJ1_charAt_3b067_0 rfl rfl ?_
  refine V_aload_n (pc := 1) dJ1_charAt_3b067_1 rfl rfl ?_
  refine V_strL (i := 1) (n := 4) (pc := 2) dJ1_charAt_3b067_2 (by decide) rfl ?_
  refine V_callS (pc := 3) (as := [_, _]) (rest := []) dJ1_charAt_3b067_3 ⟨kJ1_9, sJ0_checkIndex_df160, by decide, by decide⟩ rfl rfl (Nat.le_of_ble_eq_true rfl) (Nat.le_of_ble_eq_true rfl) ?_
  refine ct_J0_checkIndex_df160 (by decide) (by decide) (by decide) ?_
  show V_ _ _ _ _ _ _ [] _
  refine V_aload_n (pc := 6) dJ1_charAt_3b067_6 rfl rfl ?_
  refine V_iload_n (pc := 7) dJ1_charAt_3b067_7 rfl rfl ?_
  refine V_strB (i := 1) (z := 108) (pc := 8) dJ1_charAt_3b067_8 (by decide) (i3_in (by decide) (by decide) (by decide)) rfl ?_
  refine V_sipush (pc := 9) dJ1_charAt_3b067_9 (by decide) ?_
  refine V_iand (pc := 12) dJ1_charAt_3b067_12 ?_
  refine V_i2c (pc := 13) dJ1_charAt_3b067_13 ?_
  refine V_ireturn (pc := 14) dJ1_charAt_3b067_14 rfl rfl (fun hR => ?_)
  exact h
theorem ct_J0_charAt_1_2 (h : post (some (vi_ 108)) σ) : V_ l D mJ0_charAt_5068e (CM_ D mJ0_charAt_5068e post) 0 [some (vr_ 101), some (vi_ 2)] [] σ := by
  refine V_aload_n (pc := 0) dJ0_charAt_5068e_0 rfl rfl ?_
  refine V_callV (pc := 1) (as := []) (rest := []) dJ0_charAt_5068e_1 ⟨kJ0_492, iJ0_isLatin1_aae02, by decide, by decide⟩ rc_101 rfl rfl (Nat.le_of_ble_eq_true rfl) (Nat.le_of_ble_eq_true rfl) ?_
  refine ct_J0_isLatin1_1 ?_
  show V_ _ _ _ _ _ _ [_] _
  refine V_if_eq (tgt := 16) (pc := 4) dJ0_charAt_5068e_4 (by decide) (by first | assumption | decide | omega) (fun h4 => ?_) (fun h4 => ?_)
  · skip
    omega
  · skip
    refine V_aload_n (pc := 7) dJ0_charAt_5068e_7 rfl rfl ?_
    refine V_strV (i := 1) (pc := 8) dJ0_charAt_5068e_8 (tb_in 1186 (by decide +kernel) rfl) (by decide) ?_
    refine V_iload_n (pc := 11) dJ0_charAt_5068e_11 rfl rfl ?_
    refine V_callS (pc := 12) (as := [_, _]) (rest := []) dJ0_charAt_5068e_12 ⟨kJ0_495, sJ1_charAt_3b067, by decide, by decide⟩ rfl rfl (Nat.le_of_ble_eq_true rfl) (Nat.le_of_ble_eq_true rfl) ?_
    refine ct_J1_charAt_1_2 ?_
    show V_ _ _ _ _ _ _ [_] _
    refine V_ireturn (pc := 15) dJ0_charAt_5068e_15 rfl rfl (fun hR => ?_)
    exact h
theorem ct_J1_charAt_1_3 (h : post (some (vi_ 46)) σ) : V_ l D mJ1_charAt_3b067 (CM_ D mJ1_charAt_3b067 post) 0 [some (vr_ 111), some (vi_ 3)] [] σ := by
  refine V_iload_n (pc := 0) dJ1_charAt_3b067_0 rfl rfl ?_
  refine V_aload_n (pc := 1) dJ1_charAt_3b067_1 rfl rfl ?_
  refine V_strL (i := 1) (n := 4) (pc := 2) dJ1_charAt_3b067_2 (by decide) rfl ?_
  refine V_callS (pc := 3) (as := [_, _]) (rest := []) dJ1_charAt_3b067_3 ⟨kJ1_9, sJ0_checkIndex_df160, by decide, by decide⟩ rfl rfl (Nat.le_of_ble_eq_true rfl) (Nat.le_of_ble_eq_true rfl) ?_
  refine ct_J0_checkIndex_df160 (by decide) (by decide) (by decide) ?_
  show V_ _ _ _ _ _ _ [] _
  refine V_aload_n (pc := 6) dJ1_charAt_3b067_6 rfl rfl ?_
  refine V_iload_n (pc := 7) dJ1_charAt_3b067_7 rfl rfl ?_
  refine V_strB (i := 1) (z := 46) (pc := 8) dJ1_charAt_3b067_8 (by decide) (i3_in (by decide) (by decide) (by decide)) rfl ?_
  refine V_sipush (pc := 9) dJ1_charAt_3b067_9 (by decide) ?_
  refine V_iand (pc := 12) dJ1_charAt_3b067_12 ?_
  refine V_i2c (pc := 13) dJ1_charAt_3b067_13 ?_
  refine V_ireturn (pc := 14) dJ1_charAt_3b067_14 rfl rfl (fun hR => ?_)
  exact h
theorem ct_J0_charAt_1_3 (h : post (some (vi_ 46)) σ) : V_ l D mJ0_charAt_5068e (CM_ D mJ0_charAt_5068e post) 0 [some (vr_ 101), some (vi_ 3)] [] σ := by
  refine V_aload_n (pc := 0) dJ0_charAt_5068e_0 rfl rfl ?_
  refine V_callV (pc := 1) (as := []) (rest := []) dJ0_charAt_5068e_1 ⟨kJ0_492, iJ0_isLatin1_aae02, by decide, by decide⟩ rc_101 rfl rfl (Nat.le_of_ble_eq_true rfl) (Nat.le_of_ble_eq_true rfl) ?_
  refine ct_J0_isLatin1_1 ?_
  show V_ _ _ _ _ _ _ [_] _
  refine V_if_eq (tgt := 16) (pc := 4) dJ0_charAt_5068e_4 (by decide) (by first | assumption | decide | omega) (fun h4 => ?_) (fun h4 => ?_)
  · skip
    omega
  · skip
    refine V_aload_n (pc := 7) dJ0_charAt_5068e_7 rfl rfl ?_
    refine V_strV (i := 1) (pc := 8) dJ0_charAt_5068e_8 (tb_in 1186 (by decide +kernel) rfl) (by decide) ?_
    refine V_iload_n (pc := 11) dJ0_charAt_5068e_11 rfl rfl ?_
    refine V_callS (pc := 12) (as := [_, _]) (rest := []) dJ0_charAt_5068e_12 ⟨kJ0_495, sJ1_charAt_3b067, by decide, by decide⟩ rfl rfl (Nat.le_of_ble_eq_true rfl) (Nat.le_of_ble_eq_true rfl) ?_
    refine ct_J1_charAt_1_3 ?_
    show V_ _ _ _ _ _ _ [_] _
    refine V_ireturn (pc := 15) dJ0_charAt_5068e_15 rfl rfl (fun hR => ?_)
    exact h
theorem ct_J0_coder_2 (h : post (some (vi_ 0)) σ) : V_ l D mJ0_coder_7d493 (CM_ D mJ0_coder_7d493 post) 0 [some (vr_ 102)] [] σ := by
  refine V_getCS (pc := 0) dJ0_coder_7d493_0 (tb_in 40 (by decide +kernel) rfl) ?_
  refine V_if_eq (tgt := 13) (pc := 3) dJ0_coder_7d493_3 (by decide) (by first | assumption | decide | omega) (fun h3 => ?_) (fun h3 => ?_)
  · skip
    omega
  · skip
    refine V_aload_n (pc := 6) dJ0_coder_7d493_6 rfl rfl ?_
    refine V_strC (i := 2) (pc := 7) dJ0_coder_7d493_7 (tb_in 1187 (by decide +kernel) rfl) (by decide) ?_
    refine V_goto (tgt := 14) (pc := 10) dJ0_coder_7d493_10 (by decide) ?_
    refine V_ireturn (pc := 14) dJ0_coder_7d493_14 rfl rfl (fun hR => ?_)
    exact h
theorem ct_J0_isLatin1_2 (h : post (some (vi_ 1)) σ) : V_ l D mJ0_isLatin1_aae02 (CM_ D mJ0_isLatin1_aae02 post) 0 [some (vr_ 102)] [] σ := by
  refine V_getCS (pc := 0) dJ0_isLatin1_aae02_0 (tb_in 40 (by decide +kernel) rfl) ?_
  refine V_if_eq (tgt := 17) (pc := 3) dJ0_isLatin1_aae02_3 (by decide) (by first | assumption | decide | omega) (fun h3 => ?_) (fun h3 => ?_)
  · skip
    omega
  · skip
    refine V_aload_n (pc := 6) dJ0_isLatin1_aae02_6 rfl rfl ?_
    refine V_strC (i := 2) (pc := 7) dJ0_isLatin1_aae02_7 (tb_in 1187 (by decide +kernel) rfl) (by decide) ?_
    refine V_if_ne (tgt := 17) (pc := 10) dJ0_isLatin1_aae02_10 (by decide) (by first | assumption | decide | omega) (fun h10 => ?_) (fun h10 => ?_)
    · skip
      omega
    · skip
      refine V_iconst (pc := 13) dJ0_isLatin1_aae02_13 ?_
      refine V_goto (tgt := 18) (pc := 14) dJ0_isLatin1_aae02_14 (by decide) ?_
      refine V_ireturn (pc := 18) dJ0_isLatin1_aae02_18 rfl rfl (fun hR => ?_)
      exact h
theorem ct_J0_length_2 (h : post (some (vi_ 4)) σ) : V_ l D mJ0_length_8abf5 (CM_ D mJ0_length_8abf5 post) 0 [some (vr_ 102)] [] σ := by
  refine V_aload_n (pc := 0) dJ0_length_8abf5_0 rfl rfl ?_
  refine V_strV (i := 2) (pc := 1) dJ0_length_8abf5_1 (tb_in 1186 (by decide +kernel) rfl) (by decide) ?_
  refine V_strL (i := 2) (n := 4) (pc := 4) dJ0_length_8abf5_4 (by decide) rfl ?_
  refine V_aload_n (pc := 5) dJ0_length_8abf5_5 rfl rfl ?_
  refine V_callV (pc := 6) (as := []) (rest := [_]) dJ0_length_8abf5_6 ⟨kJ0_335, iJ0_coder_7d493, by decide, by decide⟩ rc_102 rfl rfl (Nat.le_of_ble_eq_true rfl) (Nat.le_of_ble_eq_true rfl) ?_
  refine ct_J0_coder_2 ?_
  show V_ _ _ _ _ _ _ [_, _] _
  refine V_ishr (pc := 9) dJ0_length_8abf5_9 ?_
  refine V_ireturn (pc := 10) dJ0_length_8abf5_10 rfl rfl (fun hR => ?_)
  exact h
theorem ct_J1_charAt_2_0 (h : post (some (vi_ 53)) σ) : V_ l D mJ1_charAt_3b067 (CM_ D mJ1_charAt_3b067 post) 0 [some (vr_ 112), some (vi_ 0)] [] σ := by
  refine V_iload_n (pc := 0) dJ1_charAt_3b067_0 rfl rfl ?_
  refine V_aload_n (pc := 1) dJ1_charAt_3b067_1 rfl rfl ?_
  refine V_strL (i := 2) (n := 4) (pc := 2) dJ1_charAt_3b067_2 (by decide) rfl ?_
  refine V_callS (pc := 3) (as := [_, _]) (rest := []) dJ1_charAt_3b067_3 ⟨kJ1_9, sJ0_checkIndex_df160, by decide, by decide⟩ rfl rfl (Nat.le_of_ble_eq_true rfl) (Nat.le_of_ble_eq_true rfl) ?_
  refine ct_J0_checkIndex_df160 (by decide) (by decide) (by decide) ?_
  show V_ _ _ _ _ _ _ [] _
  refine V_aload_n (pc := 6) dJ1_charAt_3b067_6 rfl rfl ?_
  refine V_iload_n (pc := 7) dJ1_charAt_3b067_7 rfl rfl ?_
  refine V_strB (i := 2) (z := 53) (pc := 8) dJ1_charAt_3b067_8 (by decide) (i3_in (by decide) (by decide) (by decide)) rfl ?_
  refine V_sipush (pc := 9) dJ1_charAt_3b067_9 (by decide) ?_
  refine V_iand (pc := 12) dJ1_charAt_3b067_12 ?_
  refine V_i2c (pc := 13) dJ1_charAt_3b067_13 ?_
  refine V_ireturn (pc := 14) dJ1_charAt_3b067_14 rfl rfl (fun hR => ?_)
  exact h
theorem ct_J0_charAt_2_0 (h : post (some (vi_ 53)) σ) : V_ l D mJ0_charAt_5068e (CM_ D mJ0_charAt_5068e post) 0 [some (vr_ 102), some (vi_ 0)] [] σ := by
  refine V_aload_n (pc := 0) dJ0_charAt_5068e_0 rfl rfl ?_
  refine V_callV (pc := 1) (as := []) (rest := []) dJ0_charAt_5068e_1 ⟨kJ0_492, iJ0_isLatin1_aae02, by decide, by decide⟩ rc_102 rfl rfl (Nat.le_of_ble_eq_true rfl) (Nat.le_of_ble_eq_true rfl) ?_
  refine ct_J0_isLatin1_2 ?_
  show V_ _ _ _ _ _ _ [_] _
  refine V_if_eq (tgt := 16) (pc := 4) dJ0_charAt_5068e_4 (by decide) (by first | assumption | decide | omega) (fun h4 => ?_) (fun h4 => ?_)
  · skip
    omega
  · skip
    refine V_aload_n (pc := 7) dJ0_charAt_5068e_7 rfl rfl ?_
    refine V_strV (i := 2) (pc := 8) dJ0_charAt_5068e_8 (tb_in 1186 (by decide +kernel) rfl) (by decide) ?_
    refine V_iload_n (pc := 11) dJ0_charAt_5068e_11 rfl rfl ?_
    refine V_callS (pc := 12) (as := [_, _]) (rest := []) dJ0_charAt_5068e_12 ⟨kJ0_495, sJ1_charAt_3b067, by decide, by decide⟩ rfl rfl (Nat.le_of_ble_eq_true rfl) (Nat.le_of_ble_eq_true rfl) ?_
    refine ct_J1_charAt_2_0 ?_
    show V_ _ _ _ _ _ _ [_] _
    refine V_ireturn (pc := 15) dJ0_charAt_5068e_15 rfl rfl (fun hR => ?_)
    exact h
theorem ct_J1_charAt_2_1 (h : post (some (vi_ 97)) σ) : V_ l D mJ1_charAt_3b067 (CM_ D mJ1_charAt_3b067 post) 0 [some (vr_ 112), some (vi_ 1)] [] σ := by
  refine V_iload_n (pc := 0) dJ1_charAt_3b067_0 rfl rfl ?_
  refine V_aload_n (pc := 1) dJ1_charAt_3b067_1 rfl rfl ?_
  refine V_strL (i := 2) (n := 4) (pc := 2) dJ1_charAt_3b067_2 (by decide) rfl ?_
  refine V_callS (pc := 3) (as := [_, _]) (rest := []) dJ1_charAt_3b067_3 ⟨kJ1_9, sJ0_checkIndex_df160, by decide, by decide⟩ rfl rfl (Nat.le_of_ble_eq_true rfl) (Nat.le_of_ble_eq_true rfl) ?_
  refine ct_J0_checkIndex_df160 (by decide) (by decide) (by decide) ?_
  show V_ _ _ _ _ _ _ [] _
  refine V_aload_n (pc := 6) dJ1_charAt_3b067_6 rfl rfl ?_
  refine V_iload_n (pc := 7) dJ1_charAt_3b067_7 rfl rfl ?_
  refine V_strB (i := 2) (z := 97) (pc := 8) dJ1_charAt_3b067_8 (by decide) (i3_in (by decide) (by decide) (by decide)) rfl ?_
  refine V_sipush (pc := 9) dJ1_charAt_3b067_9 (by decide) ?_
  refine V_iand (pc := 12) dJ1_charAt_3b067_12 ?_
  refine V_i2c (pc := 13) dJ1_charAt_3b067_13 ?_
  refine V_ireturn (pc := 14) dJ1_charAt_3b067_14 rfl rfl (fun hR => ?_)
  exact h
theorem ct_J0_charAt_2_1 (h : post (some (vi_ 97)) σ) : V_ l D mJ0_charAt_5068e (CM_ D mJ0_charAt_5068e post) 0 [some (vr_ 102), some (vi_ 1)] [] σ := by
  refine V_aload_n (pc := 0) dJ0_charAt_5068e_0 rfl rfl ?_
  refine V_callV (pc := 1) (as := []) (rest := []) dJ0_charAt_5068e_1 ⟨kJ0_492, iJ0_isLatin1_aae02, by decide, by decide⟩ rc_102 rfl rfl (Nat.le_of_ble_eq_true rfl) (Nat.le_of_ble_eq_true rfl) ?_
  refine ct_J0_isLatin1_2 ?_
  show V_ _ _ _ _ _ _ [_] _
  refine V_if_eq (tgt := 16) (pc := 4) dJ0_charAt_5068e_4 (by decide) (by first | assumption | decide | omega) (fun h4 => ?_) (fun h4 => ?_)
  · skip
    omega
  · skip
    refine V_aload_n (pc := 7) dJ0_charAt_5068e_7 rfl rfl ?_
    refine V_strV (i := 2) (pc := 8) dJ0_charAt_5068e_8 (tb_in 1186 (by decide +kernel) rfl) (by decide) ?_
    refine V_iload_n (pc := 11) dJ0_charAt_5068e_11 rfl rfl ?_
    refine V_callS (pc := 12) (as := [_, _]) (rest := []) dJ0_charAt_5068e_12 ⟨kJ0_495, sJ1_charAt_3b067, by decide, by decide⟩ rfl rfl (Nat.le_of_ble_eq_true rfl) (Nat.le_of_ble_eq_true rfl) ?_
    refine ct_J1_charAt_2_1 ?_
    show V_ _ _ _ _ _ _ [_] _
    refine V_ireturn (pc := 15) dJ0_charAt_5068e_15 rfl rfl (fun hR => ?_)
    exact h
theorem ct_J1_charAt_2_2 (h : post (some (vi_ 57)) σ) : V_ l D mJ1_charAt_3b067 (CM_ D mJ1_charAt_3b067 post) 0 [some (vr_ 112), some (vi_ 2)] [] σ := by
  refine V_iload_n (pc := 0) dJ1_charAt_3b067_0 rfl rfl ?_
  refine V_aload_n (pc := 1) dJ1_charAt_3b067_1 rfl rfl ?_
  refine V_strL (i := 2) (n := 4) (pc := 2) dJ1_charAt_3b067_2 (by decide) rfl ?_
  refine V_callS (pc := 3) (as := [_, _]) (rest := []) dJ1_charAt_3b067_3 ⟨kJ1_9, sJ0_checkIndex_df160, by decide, by decide⟩ rfl rfl (Nat.le_of_ble_eq_true rfl) (Nat.le_of_ble_eq_true rfl) ?_
  refine ct_J0_checkIndex_df160 (by decide) (by decide) (by decide) ?_
  show V_ _ _ _ _ _ _ [] _
  refine V_aload_n (pc := 6) dJ1_charAt_3b067_6 rfl rfl ?_
  refine V_iload_n (pc := 7) dJ1_charAt_3b067_7 rfl rfl ?_
  refine V_strB (i := 2) (z := 57) (pc := 8) dJ1_charAt_3b067_8 (by decide) (i3_in (by decide) (by decide) (by decide)) rfl ?_
  refine V_sipush (pc := 9) dJ1_charAt_3b067_9 (by decide) ?_
  refine V_iand (pc := 12) dJ1_charAt_3b067_12 ?_
  refine V_i2c (pc := 13) dJ1_charAt_3b067_13 ?_
  refine V_ireturn (pc := 14) dJ1_charAt_3b067_14 rfl rfl (fun hR => ?_)
  exact h
theorem ct_J0_charAt_2_2 (h : post (some (vi_ 57)) σ) : V_ l D mJ0_charAt_5068e (CM_ D mJ0_charAt_5068e post) 0 [some (vr_ 102), some (vi_ 2)] [] σ := by
  refine V_aload_n (pc := 0) dJ0_charAt_5068e_0 rfl rfl ?_
  refine V_callV (pc := 1) (as := []) (rest := []) dJ0_charAt_5068e_1 ⟨kJ0_492, iJ0_isLatin1_aae02, by decide, by decide⟩ rc_102 rfl rfl (Nat.le_of_ble_eq_true rfl) (Nat.le_of_ble_eq_true rfl) ?_
  refine ct_J0_isLatin1_2 ?_
  show V_ _ _ _ _ _ _ [_] _
  refine V_if_eq (tgt := 16) (pc := 4) dJ0_charAt_5068e_4 (by decide) (by first | assumption | decide | omega) (fun h4 => ?_) (fun h4 => ?_)
  · skip
    omega
  · skip
    refine V_aload_n (pc := 7) dJ0_charAt_5068e_7 rfl rfl ?_
    refine V_strV (i := 2) (pc := 8) dJ0_charAt_5068e_8 (tb_in 1186 (by decide +kernel) rfl) (by decide) ?_
    refine V_iload_n (pc := 11) dJ0_charAt_5068e_11 rfl rfl ?_
    refine V_callS (pc := 12) (as := [_, _]) (rest := []) dJ0_charAt_5068e_12 ⟨kJ0_495, sJ1_charAt_3b067, by decide, by decide⟩ rfl rfl (Nat.le_of_ble_eq_true rfl) (Nat.le_of_ble_eq_true rfl) ?_
    refine ct_J1_charAt_2_2 ?_
    show V_ _ _ _ _ _ _ [_] _
    refine V_ireturn (pc := 15) dJ0_charAt_5068e_15 rfl rfl (fun hR => ?_)
    exact h
theorem ct_J1_charAt_2_3 (h : post (some (vi_ 49)) σ) : V_ l D mJ1_charAt_3b067 (CM_ D mJ1_charAt_3b067 post) 0 [some (vr_ 112), some (vi_ 3)] [] σ := by
  refine V_iload_n (pc := 0) dJ1_charAt_3b067_0 rfl rfl ?_
  refine V_aload_n (pc := 1) dJ1_charAt_3b067_1 rfl rfl ?_
  refine V_strL (i := 2) (n := 4) (pc := 2) dJ1_charAt_3b067_2 (by decide) rfl ?_
  refine V_callS (pc := 3) (as := [_, _]) (rest := []) dJ1_charAt_3b067_3 ⟨kJ1_9, sJ0_checkIndex_df160, by decide, by decide⟩ rfl rfl (Nat.le_of_ble_eq_true rfl) (Nat.le_of_ble_eq_true rfl) ?_
  refine ct_J0_checkIndex_df160 (by decide) (by decide) (by decide) ?_
  show V_ _ _ _ _ _ _ [] _
  refine V_aload_n (pc := 6) dJ1_charAt_3b067_6 rfl rfl ?_
  refine V_iload_n (pc := 7) dJ1_charAt_3b067_7 rfl rfl ?_
  refine V_strB (i := 2) (z := 49) (pc := 8) dJ1_charAt_3b067_8 (by decide) (i3_in (by decide) (by decide) (by decide)) rfl ?_
  refine V_sipush (pc := 9) dJ1_charAt_3b067_9 (by decide) ?_
  refine V_iand (pc := 12) dJ1_charAt_3b067_12 ?_
  refine V_i2c (pc := 13) dJ1_charAt_3b067_13 ?_
  refine V_ireturn (pc := 14) dJ1_charAt_3b067_14 rfl rfl (fun hR => ?_)
  exact h
theorem ct_J0_charAt_2_3 (h : post (some (vi_ 49)) σ) : V_ l D mJ0_charAt_5068e (CM_ D mJ0_charAt_5068e post) 0 [some (vr_ 102), some (vi_ 3)] [] σ := by
  refine V_aload_n (pc := 0) dJ0_charAt_5068e_0 rfl rfl ?_
  refine V_callV (pc := 1) (as := []) (rest := []) dJ0_charAt_5068e_1 ⟨kJ0_492, iJ0_isLatin1_aae02, by decide, by decide⟩ rc_102 rfl rfl (Nat.le_of_ble_eq_true rfl) (Nat.le_of_ble_eq_true rfl) ?_
  refine ct_J0_isLatin1_2 ?_
  show V_ _ _ _ _ _ _ [_] _
  refine V_if_eq (tgt := 16) (pc := 4) dJ0_charAt_5068e_4 (by decide) (by first | assumption | decide | omega) (fun h4 => ?_) (fun h4 => ?_)
  · skip
    omega
  · skip
    refine V_aload_n (pc := 7) dJ0_charAt_5068e_7 rfl rfl ?_
    refine V_strV (i := 2) (pc := 8) dJ0_charAt_5068e_8 (tb_in 1186 (by decide +kernel) rfl) (by decide) ?_
    refine V_iload_n (pc := 11) dJ0_charAt_5068e_11 rfl rfl ?_
    refine V_callS (pc := 12) (as := [_, _]) (rest := []) dJ0_charAt_5068e_12 ⟨kJ0_495, sJ1_charAt_3b067, by decide, by decide⟩ rfl rfl (Nat.le_of_ble_eq_true rfl) (Nat.le_of_ble_eq_true rfl) ?_
    refine ct_J1_charAt_2_3 ?_
    show V_ _ _ _ _ _ _ [_] _
    refine V_ireturn (pc := 15) dJ0_charAt_5068e_15 rfl rfl (fun hR => ?_)
    exact h
end
end
