-- ===== PART A: goes FIRST, ahead of the names: the tables' words, and 'selects' of the private methods out of them =====
/-- a private method of a class that the tables say can be made, by its rows of tables_1 -/
def lw_okq (q : MethodName × Nat) : Prop := (q.1.cls ≠ "java/lang/invoke/MethodHandle" ∧ q.1.cls ≠ "java/lang/invoke/VarHandle") ∧ Cond.instantiable q.1.cls q.2 ∈ tables_1 ∧ Cond.privateMethod q.1 ∈ tables_1 ∧ Cond.instanceMethod q.1 ∈ tables_1
theorem lw_p0 : lw_okq (⟨"DrownedNames", "textAt", "(I)LDrownedNames$Text;"⟩, 11) := ⟨⟨by decide +kernel, by decide +kernel⟩, List.mem_of_getElem? (i := 18) (by decide +kernel), List.mem_of_getElem? (i := 282) (by decide +kernel), List.mem_of_getElem? (i := 283) (by decide +kernel)⟩
theorem lw_p1 : lw_okq (⟨"DrownedNames", "settle", "()V"⟩, 11) := ⟨⟨by decide +kernel, by decide +kernel⟩, List.mem_of_getElem? (i := 18) (by decide +kernel), List.mem_of_getElem? (i := 298) (by decide +kernel), List.mem_of_getElem? (i := 299) (by decide +kernel)⟩
theorem lw_p2 : lw_okq (⟨"DrownedNames$Text", "goesOnAt", "(I)Z"⟩, 4) := ⟨⟨by decide +kernel, by decide +kernel⟩, List.mem_of_getElem? (i := 26) (by decide +kernel), List.mem_of_getElem? (i := 314) (by decide +kernel), List.mem_of_getElem? (i := 315) (by decide +kernel)⟩
theorem lw_p3 : lw_okq (⟨"DrownedNames$Harbour", "bearerOf", "(II)I"⟩, 14) := ⟨⟨by decide +kernel, by decide +kernel⟩, List.mem_of_getElem? (i := 87) (by decide +kernel), List.mem_of_getElem? (i := 388) (by decide +kernel), List.mem_of_getElem? (i := 389) (by decide +kernel)⟩
theorem lw_p4 : lw_okq (⟨"DrownedNames$Harbour", "isVoid", "(II)Z"⟩, 14) := ⟨⟨by decide +kernel, by decide +kernel⟩, List.mem_of_getElem? (i := 87) (by decide +kernel), List.mem_of_getElem? (i := 396) (by decide +kernel), List.mem_of_getElem? (i := 397) (by decide +kernel)⟩
theorem lw_p5 : lw_okq (⟨"DrownedNames$Harbour", "dueOfLine", "(II)I"⟩, 14) := ⟨⟨by decide +kernel, by decide +kernel⟩, List.mem_of_getElem? (i := 87) (by decide +kernel), List.mem_of_getElem? (i := 404) (by decide +kernel), List.mem_of_getElem? (i := 405) (by decide +kernel)⟩
theorem lw_p6 : lw_okq (⟨"DrownedNames", "sheetAt", "(I)LDrownedNames$Sheet;"⟩, 11) := ⟨⟨by decide +kernel, by decide +kernel⟩, List.mem_of_getElem? (i := 18) (by decide +kernel), List.mem_of_getElem? (i := 474) (by decide +kernel), List.mem_of_getElem? (i := 475) (by decide +kernel)⟩
theorem lw_p7 : lw_okq (⟨"DrownedNames", "found", "(I)I"⟩, 11) := ⟨⟨by decide +kernel, by decide +kernel⟩, List.mem_of_getElem? (i := 18) (by decide +kernel), List.mem_of_getElem? (i := 478) (by decide +kernel), List.mem_of_getElem? (i := 479) (by decide +kernel)⟩
theorem lw_p8 : lw_okq (⟨"DrownedNames$Reckoning", "begin", "()V"⟩, 7) := ⟨⟨by decide +kernel, by decide +kernel⟩, List.mem_of_getElem? (i := 157) (by decide +kernel), List.mem_of_getElem? (i := 510) (by decide +kernel), List.mem_of_getElem? (i := 511) (by decide +kernel)⟩
theorem lw_p9 : lw_okq (⟨"DrownedNames$Reckoning", "sink", "(III)V"⟩, 7) := ⟨⟨by decide +kernel, by decide +kernel⟩, List.mem_of_getElem? (i := 157) (by decide +kernel), List.mem_of_getElem? (i := 520) (by decide +kernel), List.mem_of_getElem? (i := 521) (by decide +kernel)⟩
theorem lw_p10 : lw_okq (⟨"DrownedNames$Reckoning", "isLost", "(I)Z"⟩, 7) := ⟨⟨by decide +kernel, by decide +kernel⟩, List.mem_of_getElem? (i := 157) (by decide +kernel), List.mem_of_getElem? (i := 525) (by decide +kernel), List.mem_of_getElem? (i := 526) (by decide +kernel)⟩
theorem lw_p11 : lw_okq (⟨"DrownedNames$Reckoning", "breakName", "(II)V"⟩, 7) := ⟨⟨by decide +kernel, by decide +kernel⟩, List.mem_of_getElem? (i := 157) (by decide +kernel), List.mem_of_getElem? (i := 532) (by decide +kernel), List.mem_of_getElem? (i := 533) (by decide +kernel)⟩
theorem lw_p12 : lw_okq (⟨"DrownedNames$Evidence", "fitsAllSeen", "(I)Z"⟩, 7) := ⟨⟨by decide +kernel, by decide +kernel⟩, List.mem_of_getElem? (i := 191) (by decide +kernel), List.mem_of_getElem? (i := 595) (by decide +kernel), List.mem_of_getElem? (i := 596) (by decide +kernel)⟩
theorem lw_p13 : lw_okq (⟨"DrownedNames$Evidence", "greatestGroup", "(I)I"⟩, 7) := ⟨⟨by decide +kernel, by decide +kernel⟩, List.mem_of_getElem? (i := 191) (by decide +kernel), List.mem_of_getElem? (i := 608) (by decide +kernel), List.mem_of_getElem? (i := 609) (by decide +kernel)⟩
theorem lw_p14 : lw_okq (⟨"DrownedNames$Sheet", "narrowed", "(I)I"⟩, 4) := ⟨⟨by decide +kernel, by decide +kernel⟩, List.mem_of_getElem? (i := 221) (by decide +kernel), List.mem_of_getElem? (i := 673) (by decide +kernel), List.mem_of_getElem? (i := 674) (by decide +kernel)⟩
theorem lw_p15 : lw_okq (⟨"DrownedNames", "withShip", "(JI)J"⟩, 11) := ⟨⟨by decide +kernel, by decide +kernel⟩, List.mem_of_getElem? (i := 18) (by decide +kernel), List.mem_of_getElem? (i := 708) (by decide +kernel), List.mem_of_getElem? (i := 709) (by decide +kernel)⟩
def lw_privs_1 : List (MethodName × Nat) := [(⟨"DrownedNames", "textAt", "(I)LDrownedNames$Text;"⟩, 11), (⟨"DrownedNames", "settle", "()V"⟩, 11), (⟨"DrownedNames$Text", "goesOnAt", "(I)Z"⟩, 4), (⟨"DrownedNames$Harbour", "bearerOf", "(II)I"⟩, 14), (⟨"DrownedNames$Harbour", "isVoid", "(II)Z"⟩, 14), (⟨"DrownedNames$Harbour", "dueOfLine", "(II)I"⟩, 14), (⟨"DrownedNames", "sheetAt", "(I)LDrownedNames$Sheet;"⟩, 11), (⟨"DrownedNames", "found", "(I)I"⟩, 11), (⟨"DrownedNames$Reckoning", "begin", "()V"⟩, 7), (⟨"DrownedNames$Reckoning", "sink", "(III)V"⟩, 7), (⟨"DrownedNames$Reckoning", "isLost", "(I)Z"⟩, 7), (⟨"DrownedNames$Reckoning", "breakName", "(II)V"⟩, 7), (⟨"DrownedNames$Evidence", "fitsAllSeen", "(I)Z"⟩, 7), (⟨"DrownedNames$Evidence", "greatestGroup", "(I)I"⟩, 7), (⟨"DrownedNames$Sheet", "narrowed", "(I)I"⟩, 4), (⟨"DrownedNames", "withShip", "(JI)J"⟩, 11)]
theorem lw_r1 : ∀ q ∈ lw_privs_1, lw_okq q := List.forall_mem_cons.mpr ⟨lw_p0, List.forall_mem_cons.mpr ⟨lw_p1, List.forall_mem_cons.mpr ⟨lw_p2, List.forall_mem_cons.mpr ⟨lw_p3, List.forall_mem_cons.mpr ⟨lw_p4, List.forall_mem_cons.mpr ⟨lw_p5, List.forall_mem_cons.mpr ⟨lw_p6, List.forall_mem_cons.mpr ⟨lw_p7, List.forall_mem_cons.mpr ⟨lw_p8, List.forall_mem_cons.mpr ⟨lw_p9, List.forall_mem_cons.mpr ⟨lw_p10, List.forall_mem_cons.mpr ⟨lw_p11, List.forall_mem_cons.mpr ⟨lw_p12, List.forall_mem_cons.mpr ⟨lw_p13, List.forall_mem_cons.mpr ⟨lw_p14, List.forall_mem_cons.mpr ⟨lw_p15, fun _ h => absurd h List.not_mem_nil⟩⟩⟩⟩⟩⟩⟩⟩⟩⟩⟩⟩⟩⟩⟩⟩
theorem lw_p16 : lw_okq (⟨"DrownedNames", "withName", "(JI)J"⟩, 11) := ⟨⟨by decide +kernel, by decide +kernel⟩, List.mem_of_getElem? (i := 18) (by decide +kernel), List.mem_of_getElem? (i := 717) (by decide +kernel), List.mem_of_getElem? (i := 718) (by decide +kernel)⟩
theorem lw_p17 : lw_okq (⟨"DrownedNames", "withYear", "(JI)J"⟩, 11) := ⟨⟨by decide +kernel, by decide +kernel⟩, List.mem_of_getElem? (i := 18) (by decide +kernel), List.mem_of_getElem? (i := 729) (by decide +kernel), List.mem_of_getElem? (i := 730) (by decide +kernel)⟩
theorem lw_p18 : lw_okq (⟨"DrownedNamesModel", "finds", "(I)I"⟩, 26) := ⟨⟨by decide +kernel, by decide +kernel⟩, List.mem_of_getElem? (i := 738) (by decide +kernel), List.mem_of_getElem? (i := 835) (by decide +kernel), List.mem_of_getElem? (i := 836) (by decide +kernel)⟩
theorem lw_p19 : lw_okq (⟨"DrownedNamesModel", "lacks", "(III)I"⟩, 26) := ⟨⟨by decide +kernel, by decide +kernel⟩, List.mem_of_getElem? (i := 738) (by decide +kernel), List.mem_of_getElem? (i := 847) (by decide +kernel), List.mem_of_getElem? (i := 848) (by decide +kernel)⟩
theorem lw_p20 : lw_okq (⟨"DrownedNamesModel", "readsText", "(I)I"⟩, 26) := ⟨⟨by decide +kernel, by decide +kernel⟩, List.mem_of_getElem? (i := 738) (by decide +kernel), List.mem_of_getElem? (i := 883) (by decide +kernel), List.mem_of_getElem? (i := 884) (by decide +kernel)⟩
theorem lw_p21 : lw_okq (⟨"DrownedNamesModel", "readsThing", "(I)Z"⟩, 26) := ⟨⟨by decide +kernel, by decide +kernel⟩, List.mem_of_getElem? (i := 738) (by decide +kernel), List.mem_of_getElem? (i := 887) (by decide +kernel), List.mem_of_getElem? (i := 888) (by decide +kernel)⟩
theorem lw_p22 : lw_okq (⟨"DrownedNamesModel", "readsShip", "()Z"⟩, 26) := ⟨⟨by decide +kernel, by decide +kernel⟩, List.mem_of_getElem? (i := 738) (by decide +kernel), List.mem_of_getElem? (i := 891) (by decide +kernel), List.mem_of_getElem? (i := 892) (by decide +kernel)⟩
theorem lw_p23 : lw_okq (⟨"DrownedNamesModel", "twoFigures", "(II)I"⟩, 26) := ⟨⟨by decide +kernel, by decide +kernel⟩, List.mem_of_getElem? (i := 738) (by decide +kernel), List.mem_of_getElem? (i := 895) (by decide +kernel), List.mem_of_getElem? (i := 896) (by decide +kernel)⟩
theorem lw_p24 : lw_okq (⟨"DrownedNamesModel", "passes", "(III)I"⟩, 26) := ⟨⟨by decide +kernel, by decide +kernel⟩, List.mem_of_getElem? (i := 738) (by decide +kernel), List.mem_of_getElem? (i := 899) (by decide +kernel), List.mem_of_getElem? (i := 900) (by decide +kernel)⟩
theorem lw_p25 : lw_okq (⟨"DrownedNamesModel", "units", "(II)I"⟩, 26) := ⟨⟨by decide +kernel, by decide +kernel⟩, List.mem_of_getElem? (i := 738) (by decide +kernel), List.mem_of_getElem? (i := 903) (by decide +kernel), List.mem_of_getElem? (i := 904) (by decide +kernel)⟩
theorem lw_p26 : lw_okq (⟨"DrownedNamesModel", "readsName", "()Z"⟩, 26) := ⟨⟨by decide +kernel, by decide +kernel⟩, List.mem_of_getElem? (i := 738) (by decide +kernel), List.mem_of_getElem? (i := 907) (by decide +kernel), List.mem_of_getElem? (i := 908) (by decide +kernel)⟩
theorem lw_p27 : lw_okq (⟨"DrownedNamesModel", "readsLine", "()Z"⟩, 26) := ⟨⟨by decide +kernel, by decide +kernel⟩, List.mem_of_getElem? (i := 738) (by decide +kernel), List.mem_of_getElem? (i := 911) (by decide +kernel), List.mem_of_getElem? (i := 912) (by decide +kernel)⟩
theorem lw_p28 : lw_okq (⟨"DrownedNamesModel", "reads", "()V"⟩, 26) := ⟨⟨by decide +kernel, by decide +kernel⟩, List.mem_of_getElem? (i := 738) (by decide +kernel), List.mem_of_getElem? (i := 919) (by decide +kernel), List.mem_of_getElem? (i := 920) (by decide +kernel)⟩
theorem lw_p29 : lw_okq (⟨"DrownedNamesModel", "isShip", "(I)Z"⟩, 26) := ⟨⟨by decide +kernel, by decide +kernel⟩, List.mem_of_getElem? (i := 738) (by decide +kernel), List.mem_of_getElem? (i := 923) (by decide +kernel), List.mem_of_getElem? (i := 924) (by decide +kernel)⟩
theorem lw_p30 : lw_okq (⟨"DrownedNamesModel", "isName", "(I)Z"⟩, 26) := ⟨⟨by decide +kernel, by decide +kernel⟩, List.mem_of_getElem? (i := 738) (by decide +kernel), List.mem_of_getElem? (i := 934) (by decide +kernel), List.mem_of_getElem? (i := 935) (by decide +kernel)⟩
theorem lw_p31 : lw_okq (⟨"DrownedNamesModel", "lineOf", "(II)I"⟩, 26) := ⟨⟨by decide +kernel, by decide +kernel⟩, List.mem_of_getElem? (i := 738) (by decide +kernel), List.mem_of_getElem? (i := 946) (by decide +kernel), List.mem_of_getElem? (i := 947) (by decide +kernel)⟩
def lw_privs_2 : List (MethodName × Nat) := [(⟨"DrownedNames", "withName", "(JI)J"⟩, 11), (⟨"DrownedNames", "withYear", "(JI)J"⟩, 11), (⟨"DrownedNamesModel", "finds", "(I)I"⟩, 26), (⟨"DrownedNamesModel", "lacks", "(III)I"⟩, 26), (⟨"DrownedNamesModel", "readsText", "(I)I"⟩, 26), (⟨"DrownedNamesModel", "readsThing", "(I)Z"⟩, 26), (⟨"DrownedNamesModel", "readsShip", "()Z"⟩, 26), (⟨"DrownedNamesModel", "twoFigures", "(II)I"⟩, 26), (⟨"DrownedNamesModel", "passes", "(III)I"⟩, 26), (⟨"DrownedNamesModel", "units", "(II)I"⟩, 26), (⟨"DrownedNamesModel", "readsName", "()Z"⟩, 26), (⟨"DrownedNamesModel", "readsLine", "()Z"⟩, 26), (⟨"DrownedNamesModel", "reads", "()V"⟩, 26), (⟨"DrownedNamesModel", "isShip", "(I)Z"⟩, 26), (⟨"DrownedNamesModel", "isName", "(I)Z"⟩, 26), (⟨"DrownedNamesModel", "lineOf", "(II)I"⟩, 26)]
theorem lw_r2 : ∀ q ∈ lw_privs_2, lw_okq q := List.forall_mem_cons.mpr ⟨lw_p16, List.forall_mem_cons.mpr ⟨lw_p17, List.forall_mem_cons.mpr ⟨lw_p18, List.forall_mem_cons.mpr ⟨lw_p19, List.forall_mem_cons.mpr ⟨lw_p20, List.forall_mem_cons.mpr ⟨lw_p21, List.forall_mem_cons.mpr ⟨lw_p22, List.forall_mem_cons.mpr ⟨lw_p23, List.forall_mem_cons.mpr ⟨lw_p24, List.forall_mem_cons.mpr ⟨lw_p25, List.forall_mem_cons.mpr ⟨lw_p26, List.forall_mem_cons.mpr ⟨lw_p27, List.forall_mem_cons.mpr ⟨lw_p28, List.forall_mem_cons.mpr ⟨lw_p29, List.forall_mem_cons.mpr ⟨lw_p30, List.forall_mem_cons.mpr ⟨lw_p31, fun _ h => absurd h List.not_mem_nil⟩⟩⟩⟩⟩⟩⟩⟩⟩⟩⟩⟩⟩⟩⟩⟩
theorem lw_p32 : lw_okq (⟨"DrownedNamesModel", "dueOf", "(I)I"⟩, 26) := ⟨⟨by decide +kernel, by decide +kernel⟩, List.mem_of_getElem? (i := 738) (by decide +kernel), List.mem_of_getElem? (i := 950) (by decide +kernel), List.mem_of_getElem? (i := 951) (by decide +kernel)⟩
theorem lw_p33 : lw_okq (⟨"DrownedNamesModel", "stands", "(I)Z"⟩, 26) := ⟨⟨by decide +kernel, by decide +kernel⟩, List.mem_of_getElem? (i := 738) (by decide +kernel), List.mem_of_getElem? (i := 954) (by decide +kernel), List.mem_of_getElem? (i := 955) (by decide +kernel)⟩
theorem lw_p34 : lw_okq (⟨"DrownedNamesModel", "bearerBy", "(II)I"⟩, 26) := ⟨⟨by decide +kernel, by decide +kernel⟩, List.mem_of_getElem? (i := 738) (by decide +kernel), List.mem_of_getElem? (i := 965) (by decide +kernel), List.mem_of_getElem? (i := 966) (by decide +kernel)⟩
theorem lw_p35 : lw_okq (⟨"DrownedNamesModel", "bearerOf", "(I)I"⟩, 26) := ⟨⟨by decide +kernel, by decide +kernel⟩, List.mem_of_getElem? (i := 738) (by decide +kernel), List.mem_of_getElem? (i := 969) (by decide +kernel), List.mem_of_getElem? (i := 970) (by decide +kernel)⟩
theorem lw_p36 : lw_okq (⟨"DrownedNamesModel", "bearersOf", "(I)I"⟩, 26) := ⟨⟨by decide +kernel, by decide +kernel⟩, List.mem_of_getElem? (i := 738) (by decide +kernel), List.mem_of_getElem? (i := 973) (by decide +kernel), List.mem_of_getElem? (i := 974) (by decide +kernel)⟩
theorem lw_p37 : lw_okq (⟨"DrownedNamesModel", "borneOf", "(II)I"⟩, 26) := ⟨⟨by decide +kernel, by decide +kernel⟩, List.mem_of_getElem? (i := 738) (by decide +kernel), List.mem_of_getElem? (i := 981) (by decide +kernel), List.mem_of_getElem? (i := 982) (by decide +kernel)⟩
theorem lw_p38 : lw_okq (⟨"DrownedNamesModel", "leftOf", "(II)I"⟩, 26) := ⟨⟨by decide +kernel, by decide +kernel⟩, List.mem_of_getElem? (i := 738) (by decide +kernel), List.mem_of_getElem? (i := 1011) (by decide +kernel), List.mem_of_getElem? (i := 1012) (by decide +kernel)⟩
theorem lw_p39 : lw_okq (⟨"DrownedNamesModel", "lives", "(I)V"⟩, 26) := ⟨⟨by decide +kernel, by decide +kernel⟩, List.mem_of_getElem? (i := 738) (by decide +kernel), List.mem_of_getElem? (i := 1015) (by decide +kernel), List.mem_of_getElem? (i := 1016) (by decide +kernel)⟩
theorem lw_p40 : lw_okq (⟨"DrownedNamesModel", "begins", "()V"⟩, 26) := ⟨⟨by decide +kernel, by decide +kernel⟩, List.mem_of_getElem? (i := 738) (by decide +kernel), List.mem_of_getElem? (i := 1019) (by decide +kernel), List.mem_of_getElem? (i := 1020) (by decide +kernel)⟩
theorem lw_p41 : lw_okq (⟨"DrownedNamesModel", "goes", "(II)V"⟩, 26) := ⟨⟨by decide +kernel, by decide +kernel⟩, List.mem_of_getElem? (i := 738) (by decide +kernel), List.mem_of_getElem? (i := 1023) (by decide +kernel), List.mem_of_getElem? (i := 1024) (by decide +kernel)⟩
theorem lw_p42 : lw_okq (⟨"DrownedNamesModel", "behindOf", "(II)I"⟩, 26) := ⟨⟨by decide +kernel, by decide +kernel⟩, List.mem_of_getElem? (i := 738) (by decide +kernel), List.mem_of_getElem? (i := 1034) (by decide +kernel), List.mem_of_getElem? (i := 1035) (by decide +kernel)⟩
theorem lw_p43 : lw_okq (⟨"DrownedNamesModel", "paidOf", "(II)I"⟩, 26) := ⟨⟨by decide +kernel, by decide +kernel⟩, List.mem_of_getElem? (i := 738) (by decide +kernel), List.mem_of_getElem? (i := 1042) (by decide +kernel), List.mem_of_getElem? (i := 1043) (by decide +kernel)⟩
theorem lw_p44 : lw_okq (⟨"DrownedNamesModel", "firstOf", "(I)I"⟩, 26) := ⟨⟨by decide +kernel, by decide +kernel⟩, List.mem_of_getElem? (i := 738) (by decide +kernel), List.mem_of_getElem? (i := 1050) (by decide +kernel), List.mem_of_getElem? (i := 1051) (by decide +kernel)⟩
theorem lw_p45 : lw_okq (⟨"DrownedNamesModel", "safeNow", "()I"⟩, 26) := ⟨⟨by decide +kernel, by decide +kernel⟩, List.mem_of_getElem? (i := 738) (by decide +kernel), List.mem_of_getElem? (i := 1058) (by decide +kernel), List.mem_of_getElem? (i := 1059) (by decide +kernel)⟩
theorem lw_p46 : lw_okq (⟨"DrownedNamesModel", "alone", "(I)V"⟩, 26) := ⟨⟨by decide +kernel, by decide +kernel⟩, List.mem_of_getElem? (i := 738) (by decide +kernel), List.mem_of_getElem? (i := 1062) (by decide +kernel), List.mem_of_getElem? (i := 1063) (by decide +kernel)⟩
theorem lw_p47 : lw_okq (⟨"DrownedNamesModel", "takeOf", "(I)I"⟩, 26) := ⟨⟨by decide +kernel, by decide +kernel⟩, List.mem_of_getElem? (i := 738) (by decide +kernel), List.mem_of_getElem? (i := 1070) (by decide +kernel), List.mem_of_getElem? (i := 1071) (by decide +kernel)⟩
def lw_privs_3 : List (MethodName × Nat) := [(⟨"DrownedNamesModel", "dueOf", "(I)I"⟩, 26), (⟨"DrownedNamesModel", "stands", "(I)Z"⟩, 26), (⟨"DrownedNamesModel", "bearerBy", "(II)I"⟩, 26), (⟨"DrownedNamesModel", "bearerOf", "(I)I"⟩, 26), (⟨"DrownedNamesModel", "bearersOf", "(I)I"⟩, 26), (⟨"DrownedNamesModel", "borneOf", "(II)I"⟩, 26), (⟨"DrownedNamesModel", "leftOf", "(II)I"⟩, 26), (⟨"DrownedNamesModel", "lives", "(I)V"⟩, 26), (⟨"DrownedNamesModel", "begins", "()V"⟩, 26), (⟨"DrownedNamesModel", "goes", "(II)V"⟩, 26), (⟨"DrownedNamesModel", "behindOf", "(II)I"⟩, 26), (⟨"DrownedNamesModel", "paidOf", "(II)I"⟩, 26), (⟨"DrownedNamesModel", "firstOf", "(I)I"⟩, 26), (⟨"DrownedNamesModel", "safeNow", "()I"⟩, 26), (⟨"DrownedNamesModel", "alone", "(I)V"⟩, 26), (⟨"DrownedNamesModel", "takeOf", "(I)I"⟩, 26)]
theorem lw_r3 : ∀ q ∈ lw_privs_3, lw_okq q := List.forall_mem_cons.mpr ⟨lw_p32, List.forall_mem_cons.mpr ⟨lw_p33, List.forall_mem_cons.mpr ⟨lw_p34, List.forall_mem_cons.mpr ⟨lw_p35, List.forall_mem_cons.mpr ⟨lw_p36, List.forall_mem_cons.mpr ⟨lw_p37, List.forall_mem_cons.mpr ⟨lw_p38, List.forall_mem_cons.mpr ⟨lw_p39, List.forall_mem_cons.mpr ⟨lw_p40, List.forall_mem_cons.mpr ⟨lw_p41, List.forall_mem_cons.mpr ⟨lw_p42, List.forall_mem_cons.mpr ⟨lw_p43, List.forall_mem_cons.mpr ⟨lw_p44, List.forall_mem_cons.mpr ⟨lw_p45, List.forall_mem_cons.mpr ⟨lw_p46, List.forall_mem_cons.mpr ⟨lw_p47, fun _ h => absurd h List.not_mem_nil⟩⟩⟩⟩⟩⟩⟩⟩⟩⟩⟩⟩⟩⟩⟩⟩
theorem lw_p48 : lw_okq (⟨"DrownedNamesModel", "haveAll", "(I)I"⟩, 26) := ⟨⟨by decide +kernel, by decide +kernel⟩, List.mem_of_getElem? (i := 738) (by decide +kernel), List.mem_of_getElem? (i := 1074) (by decide +kernel), List.mem_of_getElem? (i := 1075) (by decide +kernel)⟩
theorem lw_p49 : lw_okq (⟨"DrownedNamesModel", "strikeOf", "(II)I"⟩, 26) := ⟨⟨by decide +kernel, by decide +kernel⟩, List.mem_of_getElem? (i := 738) (by decide +kernel), List.mem_of_getElem? (i := 1085) (by decide +kernel), List.mem_of_getElem? (i := 1086) (by decide +kernel)⟩
theorem lw_p50 : lw_okq (⟨"DrownedNamesModel", "borneAll", "(I)I"⟩, 26) := ⟨⟨by decide +kernel, by decide +kernel⟩, List.mem_of_getElem? (i := 738) (by decide +kernel), List.mem_of_getElem? (i := 1089) (by decide +kernel), List.mem_of_getElem? (i := 1090) (by decide +kernel)⟩
theorem lw_p51 : lw_okq (⟨"DrownedNamesModel", "soundOf", "(I)I"⟩, 26) := ⟨⟨by decide +kernel, by decide +kernel⟩, List.mem_of_getElem? (i := 738) (by decide +kernel), List.mem_of_getElem? (i := 1106) (by decide +kernel), List.mem_of_getElem? (i := 1107) (by decide +kernel)⟩
theorem lw_p52 : lw_okq (⟨"DrownedNamesModel", "isSeen", "(I)Z"⟩, 26) := ⟨⟨by decide +kernel, by decide +kernel⟩, List.mem_of_getElem? (i := 738) (by decide +kernel), List.mem_of_getElem? (i := 1110) (by decide +kernel), List.mem_of_getElem? (i := 1111) (by decide +kernel)⟩
theorem lw_p53 : lw_okq (⟨"DrownedNamesModel", "pressNow", "()I"⟩, 26) := ⟨⟨by decide +kernel, by decide +kernel⟩, List.mem_of_getElem? (i := 738) (by decide +kernel), List.mem_of_getElem? (i := 1118) (by decide +kernel), List.mem_of_getElem? (i := 1119) (by decide +kernel)⟩
theorem lw_p54 : lw_okq (⟨"DrownedNamesModel", "mostAlike", "(I)I"⟩, 26) := ⟨⟨by decide +kernel, by decide +kernel⟩, List.mem_of_getElem? (i := 738) (by decide +kernel), List.mem_of_getElem? (i := 1122) (by decide +kernel), List.mem_of_getElem? (i := 1123) (by decide +kernel)⟩
theorem lw_p55 : lw_okq (⟨"DrownedNamesModel", "fairOf", "(II)J"⟩, 26) := ⟨⟨by decide +kernel, by decide +kernel⟩, List.mem_of_getElem? (i := 738) (by decide +kernel), List.mem_of_getElem? (i := 1130) (by decide +kernel), List.mem_of_getElem? (i := 1131) (by decide +kernel)⟩
theorem lw_p56 : lw_okq (⟨"DrownedNamesModel", "stormOf", "(III)J"⟩, 26) := ⟨⟨by decide +kernel, by decide +kernel⟩, List.mem_of_getElem? (i := 738) (by decide +kernel), List.mem_of_getElem? (i := 1147) (by decide +kernel), List.mem_of_getElem? (i := 1148) (by decide +kernel)⟩
theorem lw_p57 : lw_okq (⟨"DrownedNamesModel", "yearsOf", "(IIII)I"⟩, 26) := ⟨⟨by decide +kernel, by decide +kernel⟩, List.mem_of_getElem? (i := 738) (by decide +kernel), List.mem_of_getElem? (i := 1156) (by decide +kernel), List.mem_of_getElem? (i := 1157) (by decide +kernel)⟩
theorem lw_p58 : lw_okq (⟨"DrownedNamesModel", "lot", "(I)I"⟩, 26) := ⟨⟨by decide +kernel, by decide +kernel⟩, List.mem_of_getElem? (i := 738) (by decide +kernel), List.mem_of_getElem? (i := 1160) (by decide +kernel), List.mem_of_getElem? (i := 1161) (by decide +kernel)⟩
theorem lw_p59 : lw_okq (⟨"DrownedNamesModel", "tellsShip", "(JI)J"⟩, 26) := ⟨⟨by decide +kernel, by decide +kernel⟩, List.mem_of_getElem? (i := 738) (by decide +kernel), List.mem_of_getElem? (i := 1180) (by decide +kernel), List.mem_of_getElem? (i := 1181) (by decide +kernel)⟩
theorem lw_p60 : lw_okq (⟨"DrownedNamesModel", "tellsName", "(JI)J"⟩, 26) := ⟨⟨by decide +kernel, by decide +kernel⟩, List.mem_of_getElem? (i := 738) (by decide +kernel), List.mem_of_getElem? (i := 1185) (by decide +kernel), List.mem_of_getElem? (i := 1186) (by decide +kernel)⟩
def lw_privs_4 : List (MethodName × Nat) := [(⟨"DrownedNamesModel", "haveAll", "(I)I"⟩, 26), (⟨"DrownedNamesModel", "strikeOf", "(II)I"⟩, 26), (⟨"DrownedNamesModel", "borneAll", "(I)I"⟩, 26), (⟨"DrownedNamesModel", "soundOf", "(I)I"⟩, 26), (⟨"DrownedNamesModel", "isSeen", "(I)Z"⟩, 26), (⟨"DrownedNamesModel", "pressNow", "()I"⟩, 26), (⟨"DrownedNamesModel", "mostAlike", "(I)I"⟩, 26), (⟨"DrownedNamesModel", "fairOf", "(II)J"⟩, 26), (⟨"DrownedNamesModel", "stormOf", "(III)J"⟩, 26), (⟨"DrownedNamesModel", "yearsOf", "(IIII)I"⟩, 26), (⟨"DrownedNamesModel", "lot", "(I)I"⟩, 26), (⟨"DrownedNamesModel", "tellsShip", "(JI)J"⟩, 26), (⟨"DrownedNamesModel", "tellsName", "(JI)J"⟩, 26)]
theorem lw_r4 : ∀ q ∈ lw_privs_4, lw_okq q := List.forall_mem_cons.mpr ⟨lw_p48, List.forall_mem_cons.mpr ⟨lw_p49, List.forall_mem_cons.mpr ⟨lw_p50, List.forall_mem_cons.mpr ⟨lw_p51, List.forall_mem_cons.mpr ⟨lw_p52, List.forall_mem_cons.mpr ⟨lw_p53, List.forall_mem_cons.mpr ⟨lw_p54, List.forall_mem_cons.mpr ⟨lw_p55, List.forall_mem_cons.mpr ⟨lw_p56, List.forall_mem_cons.mpr ⟨lw_p57, List.forall_mem_cons.mpr ⟨lw_p58, List.forall_mem_cons.mpr ⟨lw_p59, List.forall_mem_cons.mpr ⟨lw_p60, fun _ h => absurd h List.not_mem_nil⟩⟩⟩⟩⟩⟩⟩⟩⟩⟩⟩⟩⟩
def lw_privs : List (MethodName × Nat) := lw_privs_1 ++ (lw_privs_2 ++ (lw_privs_3 ++ (lw_privs_4)))
def lw_tbl : List Cond := k2_sels lw_privs ++ tables_1
theorem lw_privs_ok : ∀ q ∈ lw_privs, lw_okq q := by
  show ∀ q ∈ lw_privs_1 ++ (lw_privs_2 ++ (lw_privs_3 ++ (lw_privs_4))), lw_okq q
  exact List.forall_mem_append.mpr ⟨lw_r1, List.forall_mem_append.mpr ⟨lw_r2, List.forall_mem_append.mpr ⟨lw_r3, lw_r4⟩⟩⟩

-- names, read off the printed NAMES by wip/gen/mk01.py
def RX0 : String := "DrownedNames$Evidence"
def TX0 : u_T := fun k => match k with
  | 0 => ("DrownedNames$Evidence", "harbour", "LDrownedNames$Harbour;", true)
  | 1 => ("DrownedNames$Evidence", "reckoning", "LDrownedNames$Reckoning;", true)
  | 2 => ("DrownedNames$Evidence", "seen", "LDrownedNames$Pairs;", true)
  | 3 => ("DrownedNames$Evidence", "isSound", "[Z", true)
  | 4 => ("DrownedNames$Evidence", "paysAlike", "[I", true)
  | 5 => ("DrownedNames$Evidence", "howMany", "I", false)
  | _ => ("DrownedNames$Evidence", "least", "I", false)
def tyX0 : Nat → FieldType := fun k => match k with
  | 0 => .object "DrownedNames$Harbour"
  | 1 => .object "DrownedNames$Reckoning"
  | 2 => .object "DrownedNames$Pairs"
  | 3 => .array .boolean
  | 4 => .array .int
  | 5 => .int
  | _ => .int
abbrev wsX00 : List Cond := u_ws RX0 TX0 7
theorem nmX0 : ∀ a, a < 7 → ∀ b, b < 7 → a ≠ b → (TX0 a).2.1 ≠ (TX0 b).2.1 := by decide +kernel
theorem tyX0_ok : ∀ k, k < 7 → parseFieldDescriptor (TX0 k).2.2.1 = some (tyX0 k) := by decide +kernel
abbrev cX0_init : ByteArray := prog_2_method_1_code
def yX0_init : MethodName := ⟨RX0, "<init>", "(LDrownedNames$Harbour;LDrownedNames$Reckoning;LDrownedNames$Pairs;)V"⟩
abbrev cX0_weigh : ByteArray := prog_2_method_2_code
def yX0_weigh : MethodName := ⟨RX0, "weigh", "()V"⟩
abbrev cX0_shipToPress : ByteArray := prog_2_method_3_code
def yX0_shipToPress : MethodName := ⟨RX0, "shipToPress", "()I"⟩
abbrev cX0_fitsAllSeen : ByteArray := prog_2_method_4_code
def yX0_fitsAllSeen : MethodName := ⟨RX0, "fitsAllSeen", "(I)Z"⟩
abbrev cX0_greatestGroup : ByteArray := prog_2_method_5_code
def yX0_greatestGroup : MethodName := ⟨RX0, "greatestGroup", "(I)I"⟩
def RX1 : String := "DrownedNames$Harbour"
def TX1 : u_T := fun k => match k with
  | 0 => ("DrownedNames$Harbour", "ships", "I", false)
  | 1 => ("DrownedNames$Harbour", "worth", "[I", true)
  | 2 => ("DrownedNames$Harbour", "risk", "[I", true)
  | 3 => ("DrownedNames$Harbour", "names", "I", false)
  | 4 => ("DrownedNames$Harbour", "has", "[I", true)
  | 5 => ("DrownedNames$Harbour", "standsBehind", "[I", true)
  | 6 => ("DrownedNames$Harbour", "drowned", "I", false)
  | 7 => ("DrownedNames$Harbour", "lines", "I", false)
  | 8 => ("DrownedNames$Harbour", "lineShip", "[I", true)
  | 9 => ("DrownedNames$Harbour", "lineName", "[I", true)
  | 10 => ("DrownedNames$Harbour", "lineAmount", "[I", true)
  | 11 => ("DrownedNames$Harbour", "bearer", "[I", true)
  | 12 => ("DrownedNames$Harbour", "due", "[I", true)
  | _ => ("DrownedNames$Harbour", "payer", "[I", true)
def tyX1 : Nat → FieldType := fun k => match k with
  | 0 => .int
  | 1 => .array .int
  | 2 => .array .int
  | 3 => .int
  | 4 => .array .int
  | 5 => .array .int
  | 6 => .int
  | 7 => .int
  | 8 => .array .int
  | 9 => .array .int
  | 10 => .array .int
  | 11 => .array .int
  | 12 => .array .int
  | _ => .array .int
abbrev wsX10 : List Cond := u_ws RX1 TX1 14
theorem nmX1 : ∀ a, a < 14 → ∀ b, b < 14 → a ≠ b → (TX1 a).2.1 ≠ (TX1 b).2.1 := by decide +kernel
theorem tyX1_ok : ∀ k, k < 14 → parseFieldDescriptor (TX1 k).2.2.1 = some (tyX1 k) := by decide +kernel
abbrev cX1_init : ByteArray := prog_3_method_1_code
def yX1_init : MethodName := ⟨RX1, "<init>", "()V"⟩
abbrev cX1_hasShip : ByteArray := prog_3_method_2_code
def yX1_hasShip : MethodName := ⟨RX1, "hasShip", "(I)Z"⟩
abbrev cX1_hasName : ByteArray := prog_3_method_3_code
def yX1_hasName : MethodName := ⟨RX1, "hasName", "(I)Z"⟩
abbrev cX1_hasLine : ByteArray := prog_3_method_4_code
def yX1_hasLine : MethodName := ⟨RX1, "hasLine", "(I)Z"⟩
abbrev cX1_isDrowned : ByteArray := prog_3_method_5_code
def yX1_isDrowned : MethodName := ⟨RX1, "isDrowned", "(I)Z"⟩
abbrev cX1_settleShips : ByteArray := prog_3_method_6_code
def yX1_settleShips : MethodName := ⟨RX1, "settleShips", "(LDrownedNames$Text;)V"⟩
abbrev cX1_settleNames : ByteArray := prog_3_method_7_code
def yX1_settleNames : MethodName := ⟨RX1, "settleNames", "(LDrownedNames$Text;)V"⟩
abbrev cX1_settleLines : ByteArray := prog_3_method_8_code
def yX1_settleLines : MethodName := ⟨RX1, "settleLines", "(LDrownedNames$Text;)V"⟩
abbrev cX1_strikeOut : ByteArray := prog_3_method_9_code
def yX1_strikeOut : MethodName := ⟨RX1, "strikeOut", "(I)V"⟩
abbrev cX1_bearerOf : ByteArray := prog_3_method_10_code
def yX1_bearerOf : MethodName := ⟨RX1, "bearerOf", "(II)I"⟩
abbrev cX1_isVoid : ByteArray := prog_3_method_11_code
def yX1_isVoid : MethodName := ⟨RX1, "isVoid", "(II)Z"⟩
abbrev cX1_dueOfLine : ByteArray := prog_3_method_12_code
def yX1_dueOfLine : MethodName := ⟨RX1, "dueOfLine", "(II)I"⟩
abbrev cX1_namesBorneBy : ByteArray := prog_3_method_13_code
def yX1_namesBorneBy : MethodName := ⟨RX1, "namesBorneBy", "(I)I"⟩
abbrev cX1_dueOf : ByteArray := prog_3_method_14_code
def yX1_dueOf : MethodName := ⟨RX1, "dueOf", "(II)I"⟩
abbrev cX1_dueOfAllShips : ByteArray := prog_3_method_15_code
def yX1_dueOfAllShips : MethodName := ⟨RX1, "dueOfAllShips", "(I)I"⟩
abbrev cX1_hasTogether : ByteArray := prog_3_method_16_code
def yX1_hasTogether : MethodName := ⟨RX1, "hasTogether", "(I)I"⟩
abbrev cX1_chancesOf : ByteArray := prog_3_method_17_code
def yX1_chancesOf : MethodName := ⟨RX1, "chancesOf", "(I)I"⟩
def RX2 : String := "DrownedNames$Pairs"
def TX2 : u_T := fun k => match k with
  | 0 => ("DrownedNames$Pairs", "former", "[I", true)
  | 1 => ("DrownedNames$Pairs", "latter", "[I", true)
  | _ => ("DrownedNames$Pairs", "size", "I", false)
def tyX2 : Nat → FieldType := fun k => match k with
  | 0 => .array .int
  | 1 => .array .int
  | _ => .int
abbrev wsX20 : List Cond := u_ws RX2 TX2 3
theorem nmX2 : ∀ a, a < 3 → ∀ b, b < 3 → a ≠ b → (TX2 a).2.1 ≠ (TX2 b).2.1 := by decide +kernel
theorem tyX2_ok : ∀ k, k < 3 → parseFieldDescriptor (TX2 k).2.2.1 = some (tyX2 k) := by decide +kernel
abbrev cX2_init : ByteArray := prog_4_method_1_code
def yX2_init : MethodName := ⟨RX2, "<init>", "(I)V"⟩
abbrev cX2_isFull : ByteArray := prog_4_method_2_code
def yX2_isFull : MethodName := ⟨RX2, "isFull", "()Z"⟩
abbrev cX2_append : ByteArray := prog_4_method_3_code
def yX2_append : MethodName := ⟨RX2, "append", "(II)I"⟩
def RX3 : String := "DrownedNames$Reckoning"
def TX3 : u_T := fun k => match k with
  | 0 => ("DrownedNames$Reckoning", "harbour", "LDrownedNames$Harbour;", true)
  | 1 => ("DrownedNames$Reckoning", "left", "[I", true)
  | 2 => ("DrownedNames$Reckoning", "paid", "[I", true)
  | 3 => ("DrownedNames$Reckoning", "lost", "I", false)
  | 4 => ("DrownedNames$Reckoning", "broken", "I", false)
  | 5 => ("DrownedNames$Reckoning", "firstYear", "I", false)
  | _ => ("DrownedNames$Reckoning", "firstBroken", "I", false)
def tyX3 : Nat → FieldType := fun k => match k with
  | 0 => .object "DrownedNames$Harbour"
  | 1 => .array .int
  | 2 => .array .int
  | 3 => .int
  | 4 => .int
  | 5 => .int
  | _ => .int
abbrev wsX30 : List Cond := u_ws RX3 TX3 7
theorem nmX3 : ∀ a, a < 7 → ∀ b, b < 7 → a ≠ b → (TX3 a).2.1 ≠ (TX3 b).2.1 := by decide +kernel
theorem tyX3_ok : ∀ k, k < 7 → parseFieldDescriptor (TX3 k).2.2.1 = some (tyX3 k) := by decide +kernel
abbrev cX3_init : ByteArray := prog_5_method_1_code
def yX3_init : MethodName := ⟨RX3, "<init>", "(LDrownedNames$Harbour;)V"⟩
abbrev cX3_followTold : ByteArray := prog_5_method_2_code
def yX3_followTold : MethodName := ⟨RX3, "followTold", "(LDrownedNames$Pairs;I)V"⟩
abbrev cX3_followLots : ByteArray := prog_5_method_3_code
def yX3_followLots : MethodName := ⟨RX3, "followLots", "(II)V"⟩
abbrev cX3_loseTogether : ByteArray := prog_5_method_4_code
def yX3_loseTogether : MethodName := ⟨RX3, "loseTogether", "(I)V"⟩
abbrev cX3_loseAlone : ByteArray := prog_5_method_5_code
def yX3_loseAlone : MethodName := ⟨RX3, "loseAlone", "(II)I"⟩
abbrev cX3_begin : ByteArray := prog_5_method_6_code
def yX3_begin : MethodName := ⟨RX3, "begin", "()V"⟩
abbrev cX3_isLost : ByteArray := prog_5_method_7_code
def yX3_isLost : MethodName := ⟨RX3, "isLost", "(I)Z"⟩
abbrev cX3_sink : ByteArray := prog_5_method_8_code
def yX3_sink : MethodName := ⟨RX3, "sink", "(III)V"⟩
abbrev cX3_breakName : ByteArray := prog_5_method_9_code
def yX3_breakName : MethodName := ⟨RX3, "breakName", "(II)V"⟩
def RX4 : String := "DrownedNames$Sheet"
def TX4 : u_T := fun k => match k with
  | 0 => ("DrownedNames$Sheet", "items", "[I", true)
  | 1 => ("DrownedNames$Sheet", "lost", "Z", false)
  | 2 => ("DrownedNames$Sheet", "form", "I", false)
  | _ => ("DrownedNames$Sheet", "size", "I", false)
def tyX4 : Nat → FieldType := fun k => match k with
  | 0 => .array .int
  | 1 => .boolean
  | 2 => .int
  | _ => .int
abbrev wsX40 : List Cond := u_ws RX4 TX4 4
theorem nmX4 : ∀ a, a < 4 → ∀ b, b < 4 → a ≠ b → (TX4 a).2.1 ≠ (TX4 b).2.1 := by decide +kernel
theorem tyX4_ok : ∀ k, k < 4 → parseFieldDescriptor (TX4 k).2.2.1 = some (tyX4 k) := by decide +kernel
abbrev cX4_init : ByteArray := prog_6_method_1_code
def yX4_init : MethodName := ⟨RX4, "<init>", "()V"⟩
abbrev cX4_renew : ByteArray := prog_6_method_2_code
def yX4_renew : MethodName := ⟨RX4, "renew", "(II)V"⟩
abbrev cX4_findingAt : ByteArray := prog_6_method_3_code
def yX4_findingAt : MethodName := ⟨RX4, "findingAt", "(II)I"⟩
abbrev cX4_hasRange : ByteArray := prog_6_method_4_code
def yX4_hasRange : MethodName := ⟨RX4, "hasRange", "(II)Z"⟩
abbrev cX4_put : ByteArray := prog_6_method_5_code
def yX4_put : MethodName := ⟨RX4, "put", "(II)V"⟩
abbrev cX4_narrowed : ByteArray := prog_6_method_6_code
def yX4_narrowed : MethodName := ⟨RX4, "narrowed", "(I)I"⟩
def RX5 : String := "DrownedNames$Text"
def TX5 : u_T := fun k => match k with
  | 0 => ("DrownedNames$Text", "pattern", "Ljava/lang/String;", true)
  | 1 => ("DrownedNames$Text", "step", "I", true)
  | 2 => ("DrownedNames$Text", "bytes", "[I", true)
  | _ => ("DrownedNames$Text", "length", "I", false)
def tyX5 : Nat → FieldType := fun k => match k with
  | 0 => .object "java/lang/String"
  | 1 => .int
  | 2 => .array .int
  | _ => .int
abbrev wsX50 : List Cond := u_ws RX5 TX5 4
theorem nmX5 : ∀ a, a < 4 → ∀ b, b < 4 → a ≠ b → (TX5 a).2.1 ≠ (TX5 b).2.1 := by decide +kernel
theorem tyX5_ok : ∀ k, k < 4 → parseFieldDescriptor (TX5 k).2.2.1 = some (tyX5 k) := by decide +kernel
abbrev cX5_init : ByteArray := prog_7_method_1_code
def yX5_init : MethodName := ⟨RX5, "<init>", "(Ljava/lang/String;I)V"⟩
abbrev cX5_isFull : ByteArray := prog_7_method_2_code
def yX5_isFull : MethodName := ⟨RX5, "isFull", "()Z"⟩
abbrev cX5_append : ByteArray := prog_7_method_3_code
def yX5_append : MethodName := ⟨RX5, "append", "(I)V"⟩
abbrev cX5_byteAt : ByteArray := prog_7_method_4_code
def yX5_byteAt : MethodName := ⟨RX5, "byteAt", "(I)I"⟩
abbrev cX5_figureAt : ByteArray := prog_7_method_5_code
def yX5_figureAt : MethodName := ⟨RX5, "figureAt", "(I)I"⟩
abbrev cX5_figuresAt : ByteArray := prog_7_method_6_code
def yX5_figuresAt : MethodName := ⟨RX5, "figuresAt", "(I)I"⟩
abbrev cX5_faultPlace : ByteArray := prog_7_method_7_code
def yX5_faultPlace : MethodName := ⟨RX5, "faultPlace", "()I"⟩
abbrev cX5_items : ByteArray := prog_7_method_8_code
def yX5_items : MethodName := ⟨RX5, "items", "()I"⟩
abbrev cX5_goesOnAt : ByteArray := prog_7_method_9_code
def yX5_goesOnAt : MethodName := ⟨RX5, "goesOnAt", "(I)Z"⟩
abbrev cX5_isBetween : ByteArray := prog_7_method_10_code
def yX5_isBetween : MethodName := ⟨RX5, "isBetween", "(ICC)Z"⟩
def RX6 : String := "DrownedNames"
def TX6 : u_T := fun k => match k with
  | 0 => ("DrownedNames", "shipText", "LDrownedNames$Text;", true)
  | 1 => ("DrownedNames", "nameText", "LDrownedNames$Text;", true)
  | 2 => ("DrownedNames", "lineText", "LDrownedNames$Text;", true)
  | 3 => ("DrownedNames", "losses", "LDrownedNames$Pairs;", true)
  | 4 => ("DrownedNames", "sheets", "[LDrownedNames$Sheet;", true)
  | 5 => ("DrownedNames", "harbour", "LDrownedNames$Harbour;", true)
  | 6 => ("DrownedNames", "reckoning", "LDrownedNames$Reckoning;", true)
  | 7 => ("DrownedNames", "sightings", "LDrownedNames$Pairs;", true)
  | 8 => ("DrownedNames", "evidence", "LDrownedNames$Evidence;", true)
  | 9 => ("DrownedNames", "struckNames", "I", false)
  | _ => ("DrownedNames", "latestFinding", "I", false)
def tyX6 : Nat → FieldType := fun k => match k with
  | 0 => .object "DrownedNames$Text"
  | 1 => .object "DrownedNames$Text"
  | 2 => .object "DrownedNames$Text"
  | 3 => .object "DrownedNames$Pairs"
  | 4 => .array (.object "DrownedNames$Sheet")
  | 5 => .object "DrownedNames$Harbour"
  | 6 => .object "DrownedNames$Reckoning"
  | 7 => .object "DrownedNames$Pairs"
  | 8 => .object "DrownedNames$Evidence"
  | 9 => .int
  | _ => .int
abbrev wsX60 : List Cond := u_ws RX6 TX6 11
theorem nmX6 : ∀ a, a < 11 → ∀ b, b < 11 → a ≠ b → (TX6 a).2.1 ≠ (TX6 b).2.1 := by decide +kernel
theorem tyX6_ok : ∀ k, k < 11 → parseFieldDescriptor (TX6 k).2.2.1 = some (tyX6 k) := by decide +kernel
abbrev cX6_init : ByteArray := prog_1_method_1_code
def yX6_init : MethodName := ⟨RX6, "<init>", "()V"⟩
abbrev cX6_type : ByteArray := prog_1_method_2_code
def yX6_type : MethodName := ⟨RX6, "type", "(II)I"⟩
abbrev cX6_wipe : ByteArray := prog_1_method_3_code
def yX6_wipe : MethodName := ⟨RX6, "wipe", "(I)I"⟩
abbrev cX6_undo : ByteArray := prog_1_method_4_code
def yX6_undo : MethodName := ⟨RX6, "undo", "(I)I"⟩
abbrev cX6_fault : ByteArray := prog_1_method_5_code
def yX6_fault : MethodName := ⟨RX6, "fault", "(I)I"⟩
abbrev cX6_ship : ByteArray := prog_1_method_6_code
def yX6_ship : MethodName := ⟨RX6, "ship", "(II)I"⟩
abbrev cX6_name : ByteArray := prog_1_method_7_code
def yX6_name : MethodName := ⟨RX6, "name", "(II)I"⟩
abbrev cX6_line : ByteArray := prog_1_method_8_code
def yX6_line : MethodName := ⟨RX6, "line", "(II)I"⟩
abbrev cX6_struck : ByteArray := prog_1_method_9_code
def yX6_struck : MethodName := ⟨RX6, "struck", "(I)I"⟩
abbrev cX6_loss : ByteArray := prog_1_method_10_code
def yX6_loss : MethodName := ⟨RX6, "loss", "(II)I"⟩
abbrev cX6_back : ByteArray := prog_1_method_11_code
def yX6_back : MethodName := ⟨RX6, "back", "()I"⟩
abbrev cX6_read : ByteArray := prog_1_method_12_code
def yX6_read : MethodName := ⟨RX6, "read", "(I)I"⟩
abbrev cX6_bearer : ByteArray := prog_1_method_13_code
def yX6_bearer : MethodName := ⟨RX6, "bearer", "(II)I"⟩
abbrev cX6_borne : ByteArray := prog_1_method_14_code
def yX6_borne : MethodName := ⟨RX6, "borne", "(II)I"⟩
abbrev cX6_unborne : ByteArray := prog_1_method_15_code
def yX6_unborne : MethodName := ⟨RX6, "unborne", "(I)I"⟩
abbrev cX6_left : ByteArray := prog_1_method_16_code
def yX6_left : MethodName := ⟨RX6, "left", "(II)I"⟩
abbrev cX6_behind : ByteArray := prog_1_method_17_code
def yX6_behind : MethodName := ⟨RX6, "behind", "(II)I"⟩
abbrev cX6_paid : ByteArray := prog_1_method_18_code
def yX6_paid : MethodName := ⟨RX6, "paid", "(II)I"⟩
abbrev cX6_first : ByteArray := prog_1_method_19_code
def yX6_first : MethodName := ⟨RX6, "first", "(I)I"⟩
abbrev cX6_safe : ByteArray := prog_1_method_20_code
def yX6_safe : MethodName := ⟨RX6, "safe", "()I"⟩
abbrev cX6_take : ByteArray := prog_1_method_21_code
def yX6_take : MethodName := ⟨RX6, "take", "(I)I"⟩
abbrev cX6_strike : ByteArray := prog_1_method_22_code
def yX6_strike : MethodName := ⟨RX6, "strike", "(II)I"⟩
abbrev cX6_seen : ByteArray := prog_1_method_23_code
def yX6_seen : MethodName := ⟨RX6, "seen", "(II)I"⟩
abbrev cX6_forget : ByteArray := prog_1_method_24_code
def yX6_forget : MethodName := ⟨RX6, "forget", "()I"⟩
abbrev cX6_sound : ByteArray := prog_1_method_25_code
def yX6_sound : MethodName := ⟨RX6, "sound", "(I)I"⟩
abbrev cX6_press : ByteArray := prog_1_method_26_code
def yX6_press : MethodName := ⟨RX6, "press", "()I"⟩
abbrev cX6_fair : ByteArray := prog_1_method_27_code
def yX6_fair : MethodName := ⟨RX6, "fair", "(II)J"⟩
abbrev cX6_storm : ByteArray := prog_1_method_28_code
def yX6_storm : MethodName := ⟨RX6, "storm", "(III)J"⟩
abbrev cX6_years : ByteArray := prog_1_method_29_code
def yX6_years : MethodName := ⟨RX6, "years", "(IIII)I"⟩
abbrev cX6_sheet : ByteArray := prog_1_method_30_code
def yX6_sheet : MethodName := ⟨RX6, "sheet", "(III)I"⟩
abbrev cX6_lose : ByteArray := prog_1_method_31_code
def yX6_lose : MethodName := ⟨RX6, "lose", "(I)I"⟩
abbrev cX6_lay : ByteArray := prog_1_method_32_code
def yX6_lay : MethodName := ⟨RX6, "lay", "(IIII)I"⟩
abbrev cX6_get : ByteArray := prog_1_method_33_code
def yX6_get : MethodName := ⟨RX6, "get", "(III)I"⟩
abbrev cX6_copy : ByteArray := prog_1_method_34_code
def yX6_copy : MethodName := ⟨RX6, "copy", "(IIIII)I"⟩
abbrev cX6_write : ByteArray := prog_1_method_35_code
def yX6_write : MethodName := ⟨RX6, "write", "(II)I"⟩
abbrev cX6_count : ByteArray := prog_1_method_36_code
def yX6_count : MethodName := ⟨RX6, "count", "(I)I"⟩
abbrev cX6_digest : ByteArray := prog_1_method_37_code
def yX6_digest : MethodName := ⟨RX6, "digest", "()J"⟩
abbrev cX6_withShip : ByteArray := prog_1_method_38_code
def yX6_withShip : MethodName := ⟨RX6, "withShip", "(JI)J"⟩
abbrev cX6_withName : ByteArray := prog_1_method_39_code
def yX6_withName : MethodName := ⟨RX6, "withName", "(JI)J"⟩
abbrev cX6_withYear : ByteArray := prog_1_method_40_code
def yX6_withYear : MethodName := ⟨RX6, "withYear", "(JI)J"⟩
abbrev cX6_textAt : ByteArray := prog_1_method_41_code
def yX6_textAt : MethodName := ⟨RX6, "textAt", "(I)LDrownedNames$Text;"⟩
abbrev cX6_sheetAt : ByteArray := prog_1_method_42_code
def yX6_sheetAt : MethodName := ⟨RX6, "sheetAt", "(I)LDrownedNames$Sheet;"⟩
abbrev cX6_settle : ByteArray := prog_1_method_43_code
def yX6_settle : MethodName := ⟨RX6, "settle", "()V"⟩
abbrev cX6_found : ByteArray := prog_1_method_44_code
def yX6_found : MethodName := ⟨RX6, "found", "(I)I"⟩
abbrev cX6_isWithin : ByteArray := prog_1_method_45_code
def yX6_isWithin : MethodName := ⟨RX6, "isWithin", "(II)Z"⟩
abbrev cX6_isYear : ByteArray := prog_1_method_46_code
def yX6_isYear : MethodName := ⟨RX6, "isYear", "(I)Z"⟩
abbrev cX6_isForm : ByteArray := prog_1_method_47_code
def yX6_isForm : MethodName := ⟨RX6, "isForm", "(I)Z"⟩
abbrev cX6_isLoss : ByteArray := prog_1_method_48_code
def yX6_isLoss : MethodName := ⟨RX6, "isLoss", "(II)Z"⟩
abbrev cX6_partOfFraction : ByteArray := prog_1_method_49_code
def yX6_partOfFraction : MethodName := ⟨RX6, "partOfFraction", "(III)J"⟩
def RX7 : String := "DrownedNamesModel"
def TX7 : u_T := fun k => match k with
  | 0 => ("DrownedNamesModel", "forms", "[I", true)
  | 1 => ("DrownedNamesModel", "sizes", "[I", true)
  | 2 => ("DrownedNamesModel", "items", "[I", true)
  | 3 => ("DrownedNamesModel", "moved", "[I", true)
  | 4 => ("DrownedNamesModel", "latest", "I", false)
  | 5 => ("DrownedNamesModel", "bytes", "[I", true)
  | 6 => ("DrownedNamesModel", "typed", "[I", true)
  | 7 => ("DrownedNamesModel", "at", "I", false)
  | 8 => ("DrownedNamesModel", "many", "[I", true)
  | 9 => ("DrownedNamesModel", "ship", "[I", true)
  | 10 => ("DrownedNamesModel", "name", "[I", true)
  | 11 => ("DrownedNamesModel", "line", "[I", true)
  | 12 => ("DrownedNamesModel", "struck", "I", false)
  | 13 => ("DrownedNamesModel", "losses", "I", false)
  | 14 => ("DrownedNamesModel", "loss", "[I", true)
  | 15 => ("DrownedNamesModel", "left", "[I", true)
  | 16 => ("DrownedNamesModel", "broken", "I", false)
  | 17 => ("DrownedNamesModel", "lost", "I", false)
  | 18 => ("DrownedNamesModel", "paid", "[I", true)
  | 19 => ("DrownedNamesModel", "firstYear", "I", false)
  | 20 => ("DrownedNamesModel", "firstWho", "I", false)
  | 21 => ("DrownedNamesModel", "sound", "I", false)
  | 22 => ("DrownedNamesModel", "sights", "I", false)
  | 23 => ("DrownedNamesModel", "sight", "[I", true)
  | 24 => ("DrownedNamesModel", "sums", "[I", true)
  | _ => ("DrownedNamesModel", "drawn", "I", false)
def tyX7 : Nat → FieldType := fun k => match k with
  | 0 => .array .int
  | 1 => .array .int
  | 2 => .array .int
  | 3 => .array .int
  | 4 => .int
  | 5 => .array .int
  | 6 => .array .int
  | 7 => .int
  | 8 => .array .int
  | 9 => .array .int
  | 10 => .array .int
  | 11 => .array .int
  | 12 => .int
  | 13 => .int
  | 14 => .array .int
  | 15 => .array .int
  | 16 => .int
  | 17 => .int
  | 18 => .array .int
  | 19 => .int
  | 20 => .int
  | 21 => .int
  | 22 => .int
  | 23 => .array .int
  | 24 => .array .int
  | _ => .int
abbrev wsX70 : List Cond := u_ws RX7 TX7 26
theorem nmX7 : ∀ a, a < 26 → ∀ b, b < 26 → a ≠ b → (TX7 a).2.1 ≠ (TX7 b).2.1 := by decide +kernel
theorem tyX7_ok : ∀ k, k < 26 → parseFieldDescriptor (TX7 k).2.2.1 = some (tyX7 k) := by decide +kernel
abbrev cX7_init : ByteArray := prog_9_method_1_code
def yX7_init : MethodName := ⟨RX7, "<init>", "()V"⟩
abbrev cX7_in : ByteArray := prog_9_method_3_code
def yX7_in : MethodName := ⟨RX7, "in", "(JJJ)Z"⟩
abbrev cX7_no : ByteArray := prog_9_method_4_code
def yX7_no : MethodName := ⟨RX7, "no", "(I)J"⟩
abbrev cX7_isTwo : ByteArray := prog_9_method_5_code
def yX7_isTwo : MethodName := ⟨RX7, "isTwo", "(I)Z"⟩
abbrev cX7_isIn : ByteArray := prog_9_method_6_code
def yX7_isIn : MethodName := ⟨RX7, "isIn", "(II)Z"⟩
abbrev cX7_ones : ByteArray := prog_9_method_7_code
def yX7_ones : MethodName := ⟨RX7, "ones", "(I)I"⟩
abbrev cX7_lesser : ByteArray := prog_9_method_8_code
def yX7_lesser : MethodName := ⟨RX7, "lesser", "(II)I"⟩
abbrev cX7_part : ByteArray := prog_9_method_9_code
def yX7_part : MethodName := ⟨RX7, "part", "(JJI)J"⟩
abbrev cX7_finds : ByteArray := prog_9_method_10_code
def yX7_finds : MethodName := ⟨RX7, "finds", "(I)I"⟩
abbrev cX7_isSheet : ByteArray := prog_9_method_11_code
def yX7_isSheet : MethodName := ⟨RX7, "isSheet", "(I)Z"⟩
abbrev cX7_sheet : ByteArray := prog_9_method_12_code
def yX7_sheet : MethodName := ⟨RX7, "sheet", "(III)I"⟩
abbrev cX7_lose : ByteArray := prog_9_method_13_code
def yX7_lose : MethodName := ⟨RX7, "lose", "(I)I"⟩
abbrev cX7_lacks : ByteArray := prog_9_method_14_code
def yX7_lacks : MethodName := ⟨RX7, "lacks", "(III)I"⟩
abbrev cX7_cut : ByteArray := prog_9_method_15_code
def yX7_cut : MethodName := ⟨RX7, "cut", "(II)I"⟩
abbrev cX7_lay : ByteArray := prog_9_method_16_code
def yX7_lay : MethodName := ⟨RX7, "lay", "(IIII)I"⟩
abbrev cX7_get : ByteArray := prog_9_method_17_code
def yX7_get : MethodName := ⟨RX7, "get", "(III)I"⟩
abbrev cX7_copy : ByteArray := prog_9_method_18_code
def yX7_copy : MethodName := ⟨RX7, "copy", "(IIIII)I"⟩
abbrev cX7_isText : ByteArray := prog_9_method_19_code
def yX7_isText : MethodName := ⟨RX7, "isText", "(I)Z"⟩
abbrev cX7_type : ByteArray := prog_9_method_20_code
def yX7_type : MethodName := ⟨RX7, "type", "(II)I"⟩
abbrev cX7_wipe : ByteArray := prog_9_method_21_code
def yX7_wipe : MethodName := ⟨RX7, "wipe", "(I)I"⟩
abbrev cX7_undo : ByteArray := prog_9_method_22_code
def yX7_undo : MethodName := ⟨RX7, "undo", "(I)I"⟩
abbrev cX7_passes : ByteArray := prog_9_method_23_code
def yX7_passes : MethodName := ⟨RX7, "passes", "(III)I"⟩
abbrev cX7_twoFigures : ByteArray := prog_9_method_24_code
def yX7_twoFigures : MethodName := ⟨RX7, "twoFigures", "(II)I"⟩
abbrev cX7_units : ByteArray := prog_9_method_25_code
def yX7_units : MethodName := ⟨RX7, "units", "(II)I"⟩
abbrev cX7_readsShip : ByteArray := prog_9_method_26_code
def yX7_readsShip : MethodName := ⟨RX7, "readsShip", "()Z"⟩
abbrev cX7_readsName : ByteArray := prog_9_method_27_code
def yX7_readsName : MethodName := ⟨RX7, "readsName", "()Z"⟩
abbrev cX7_readsLine : ByteArray := prog_9_method_28_code
def yX7_readsLine : MethodName := ⟨RX7, "readsLine", "()Z"⟩
abbrev cX7_readsThing : ByteArray := prog_9_method_29_code
def yX7_readsThing : MethodName := ⟨RX7, "readsThing", "(I)Z"⟩
abbrev cX7_readsText : ByteArray := prog_9_method_30_code
def yX7_readsText : MethodName := ⟨RX7, "readsText", "(I)I"⟩
abbrev cX7_reads : ByteArray := prog_9_method_31_code
def yX7_reads : MethodName := ⟨RX7, "reads", "()V"⟩
abbrev cX7_fault : ByteArray := prog_9_method_32_code
def yX7_fault : MethodName := ⟨RX7, "fault", "(I)I"⟩
abbrev cX7_isShip : ByteArray := prog_9_method_33_code
def yX7_isShip : MethodName := ⟨RX7, "isShip", "(I)Z"⟩
abbrev cX7_isName : ByteArray := prog_9_method_34_code
def yX7_isName : MethodName := ⟨RX7, "isName", "(I)Z"⟩
abbrev cX7_isYear : ByteArray := prog_9_method_35_code
def yX7_isYear : MethodName := ⟨RX7, "isYear", "(I)Z"⟩
abbrev cX7_ship : ByteArray := prog_9_method_36_code
def yX7_ship : MethodName := ⟨RX7, "ship", "(II)I"⟩
abbrev cX7_name : ByteArray := prog_9_method_37_code
def yX7_name : MethodName := ⟨RX7, "name", "(II)I"⟩
abbrev cX7_struck : ByteArray := prog_9_method_38_code
def yX7_struck : MethodName := ⟨RX7, "struck", "(I)I"⟩
abbrev cX7_bearerOf : ByteArray := prog_9_method_39_code
def yX7_bearerOf : MethodName := ⟨RX7, "bearerOf", "(I)I"⟩
abbrev cX7_stands : ByteArray := prog_9_method_40_code
def yX7_stands : MethodName := ⟨RX7, "stands", "(I)Z"⟩
abbrev cX7_dueOf : ByteArray := prog_9_method_41_code
def yX7_dueOf : MethodName := ⟨RX7, "dueOf", "(I)I"⟩
abbrev cX7_lineOf : ByteArray := prog_9_method_42_code
def yX7_lineOf : MethodName := ⟨RX7, "lineOf", "(II)I"⟩
abbrev cX7_line : ByteArray := prog_9_method_43_code
def yX7_line : MethodName := ⟨RX7, "line", "(II)I"⟩
abbrev cX7_bearersOf : ByteArray := prog_9_method_44_code
def yX7_bearersOf : MethodName := ⟨RX7, "bearersOf", "(I)I"⟩
abbrev cX7_bearerBy : ByteArray := prog_9_method_45_code
def yX7_bearerBy : MethodName := ⟨RX7, "bearerBy", "(II)I"⟩
abbrev cX7_bearer : ByteArray := prog_9_method_46_code
def yX7_bearer : MethodName := ⟨RX7, "bearer", "(II)I"⟩
abbrev cX7_borneOf : ByteArray := prog_9_method_47_code
def yX7_borneOf : MethodName := ⟨RX7, "borneOf", "(II)I"⟩
abbrev cX7_borne : ByteArray := prog_9_method_48_code
def yX7_borne : MethodName := ⟨RX7, "borne", "(II)I"⟩
abbrev cX7_unborne : ByteArray := prog_9_method_49_code
def yX7_unborne : MethodName := ⟨RX7, "unborne", "(I)I"⟩
abbrev cX7_loss : ByteArray := prog_9_method_50_code
def yX7_loss : MethodName := ⟨RX7, "loss", "(II)I"⟩
abbrev cX7_back : ByteArray := prog_9_method_51_code
def yX7_back : MethodName := ⟨RX7, "back", "()I"⟩
abbrev cX7_read : ByteArray := prog_9_method_52_code
def yX7_read : MethodName := ⟨RX7, "read", "(I)I"⟩
abbrev cX7_begins : ByteArray := prog_9_method_53_code
def yX7_begins : MethodName := ⟨RX7, "begins", "()V"⟩
abbrev cX7_goes : ByteArray := prog_9_method_54_code
def yX7_goes : MethodName := ⟨RX7, "goes", "(II)V"⟩
abbrev cX7_lives : ByteArray := prog_9_method_55_code
def yX7_lives : MethodName := ⟨RX7, "lives", "(I)V"⟩
abbrev cX7_leftOf : ByteArray := prog_9_method_56_code
def yX7_leftOf : MethodName := ⟨RX7, "leftOf", "(II)I"⟩
abbrev cX7_left : ByteArray := prog_9_method_57_code
def yX7_left : MethodName := ⟨RX7, "left", "(II)I"⟩
abbrev cX7_behindOf : ByteArray := prog_9_method_58_code
def yX7_behindOf : MethodName := ⟨RX7, "behindOf", "(II)I"⟩
abbrev cX7_behind : ByteArray := prog_9_method_59_code
def yX7_behind : MethodName := ⟨RX7, "behind", "(II)I"⟩
abbrev cX7_paidOf : ByteArray := prog_9_method_60_code
def yX7_paidOf : MethodName := ⟨RX7, "paidOf", "(II)I"⟩
abbrev cX7_paid : ByteArray := prog_9_method_61_code
def yX7_paid : MethodName := ⟨RX7, "paid", "(II)I"⟩
abbrev cX7_firstOf : ByteArray := prog_9_method_62_code
def yX7_firstOf : MethodName := ⟨RX7, "firstOf", "(I)I"⟩
abbrev cX7_first : ByteArray := prog_9_method_63_code
def yX7_first : MethodName := ⟨RX7, "first", "(I)I"⟩
abbrev cX7_alone : ByteArray := prog_9_method_64_code
def yX7_alone : MethodName := ⟨RX7, "alone", "(I)V"⟩
abbrev cX7_safeNow : ByteArray := prog_9_method_65_code
def yX7_safeNow : MethodName := ⟨RX7, "safeNow", "()I"⟩
abbrev cX7_safe : ByteArray := prog_9_method_66_code
def yX7_safe : MethodName := ⟨RX7, "safe", "()I"⟩
abbrev cX7_haveAll : ByteArray := prog_9_method_67_code
def yX7_haveAll : MethodName := ⟨RX7, "haveAll", "(I)I"⟩
abbrev cX7_takeOf : ByteArray := prog_9_method_68_code
def yX7_takeOf : MethodName := ⟨RX7, "takeOf", "(I)I"⟩
abbrev cX7_take : ByteArray := prog_9_method_69_code
def yX7_take : MethodName := ⟨RX7, "take", "(I)I"⟩
abbrev cX7_borneAll : ByteArray := prog_9_method_70_code
def yX7_borneAll : MethodName := ⟨RX7, "borneAll", "(I)I"⟩
abbrev cX7_strikeOf : ByteArray := prog_9_method_71_code
def yX7_strikeOf : MethodName := ⟨RX7, "strikeOf", "(II)I"⟩
abbrev cX7_strike : ByteArray := prog_9_method_72_code
def yX7_strike : MethodName := ⟨RX7, "strike", "(II)I"⟩
abbrev cX7_seen : ByteArray := prog_9_method_73_code
def yX7_seen : MethodName := ⟨RX7, "seen", "(II)I"⟩
abbrev cX7_forget : ByteArray := prog_9_method_74_code
def yX7_forget : MethodName := ⟨RX7, "forget", "()I"⟩
abbrev cX7_isSeen : ByteArray := prog_9_method_75_code
def yX7_isSeen : MethodName := ⟨RX7, "isSeen", "(I)Z"⟩
abbrev cX7_soundOf : ByteArray := prog_9_method_76_code
def yX7_soundOf : MethodName := ⟨RX7, "soundOf", "(I)I"⟩
abbrev cX7_sound : ByteArray := prog_9_method_77_code
def yX7_sound : MethodName := ⟨RX7, "sound", "(I)I"⟩
abbrev cX7_mostAlike : ByteArray := prog_9_method_78_code
def yX7_mostAlike : MethodName := ⟨RX7, "mostAlike", "(I)I"⟩
abbrev cX7_pressNow : ByteArray := prog_9_method_79_code
def yX7_pressNow : MethodName := ⟨RX7, "pressNow", "()I"⟩
abbrev cX7_press : ByteArray := prog_9_method_80_code
def yX7_press : MethodName := ⟨RX7, "press", "()I"⟩
abbrev cX7_fairOf : ByteArray := prog_9_method_81_code
def yX7_fairOf : MethodName := ⟨RX7, "fairOf", "(II)J"⟩
abbrev cX7_fair : ByteArray := prog_9_method_82_code
def yX7_fair : MethodName := ⟨RX7, "fair", "(II)J"⟩
abbrev cX7_stormOf : ByteArray := prog_9_method_83_code
def yX7_stormOf : MethodName := ⟨RX7, "stormOf", "(III)J"⟩
abbrev cX7_storm : ByteArray := prog_9_method_84_code
def yX7_storm : MethodName := ⟨RX7, "storm", "(III)J"⟩
abbrev cX7_lot : ByteArray := prog_9_method_85_code
def yX7_lot : MethodName := ⟨RX7, "lot", "(I)I"⟩
abbrev cX7_yearsOf : ByteArray := prog_9_method_86_code
def yX7_yearsOf : MethodName := ⟨RX7, "yearsOf", "(IIII)I"⟩
abbrev cX7_years : ByteArray := prog_9_method_87_code
def yX7_years : MethodName := ⟨RX7, "years", "(IIII)I"⟩
abbrev cX7_write : ByteArray := prog_9_method_88_code
def yX7_write : MethodName := ⟨RX7, "write", "(II)I"⟩
abbrev cX7_count : ByteArray := prog_9_method_89_code
def yX7_count : MethodName := ⟨RX7, "count", "(I)I"⟩
abbrev cX7_tellsShip : ByteArray := prog_9_method_90_code
def yX7_tellsShip : MethodName := ⟨RX7, "tellsShip", "(JI)J"⟩
abbrev cX7_tellsName : ByteArray := prog_9_method_91_code
def yX7_tellsName : MethodName := ⟨RX7, "tellsName", "(JI)J"⟩
abbrev cX7_digest : ByteArray := prog_9_method_92_code
def yX7_digest : MethodName := ⟨RX7, "digest", "()J"⟩
def RJx145de : String := "java/io/Serializable"
def TJx145de : u_T := fun k => match k with
  | _ => ("", "", "", false)
def tyJx145de : Nat → FieldType := fun k => match k with
  | _ => .int
abbrev wsJx145de0 : List Cond := u_ws RJx145de TJx145de 0
theorem nmJx145de : ∀ a, a < 0 → ∀ b, b < 0 → a ≠ b → (TJx145de a).2.1 ≠ (TJx145de b).2.1 := by decide +kernel
theorem tyJx145de_ok : ∀ k, k < 0 → parseFieldDescriptor (TJx145de k).2.2.1 = some (tyJx145de k) := by decide +kernel
def RJx9f9b0 : String := "java/lang/CharSequence"
def TJx9f9b0 : u_T := fun k => match k with
  | _ => ("", "", "", false)
def tyJx9f9b0 : Nat → FieldType := fun k => match k with
  | _ => .int
abbrev wsJx9f9b00 : List Cond := u_ws RJx9f9b0 TJx9f9b0 0
theorem nmJx9f9b0 : ∀ a, a < 0 → ∀ b, b < 0 → a ≠ b → (TJx9f9b0 a).2.1 ≠ (TJx9f9b0 b).2.1 := by decide +kernel
theorem tyJx9f9b0_ok : ∀ k, k < 0 → parseFieldDescriptor (TJx9f9b0 k).2.2.1 = some (tyJx9f9b0 k) := by decide +kernel
def RJxb160c : String := "java/lang/Comparable"
def TJxb160c : u_T := fun k => match k with
  | _ => ("", "", "", false)
def tyJxb160c : Nat → FieldType := fun k => match k with
  | _ => .int
abbrev wsJxb160c0 : List Cond := u_ws RJxb160c TJxb160c 0
theorem nmJxb160c : ∀ a, a < 0 → ∀ b, b < 0 → a ≠ b → (TJxb160c a).2.1 ≠ (TJxb160c b).2.1 := by decide +kernel
theorem tyJxb160c_ok : ∀ k, k < 0 → parseFieldDescriptor (TJxb160c k).2.2.1 = some (tyJxb160c k) := by decide +kernel
def RJ6 : String := "java/lang/Integer"
def TJ6 : u_T := fun k => match k with
  | _ => ("", "", "", false)
def tyJ6 : Nat → FieldType := fun k => match k with
  | _ => .int
abbrev wsJ60 : List Cond := u_ws RJ6 TJ6 0
theorem nmJ6 : ∀ a, a < 0 → ∀ b, b < 0 → a ≠ b → (TJ6 a).2.1 ≠ (TJ6 b).2.1 := by decide +kernel
theorem tyJ6_ok : ∀ k, k < 0 → parseFieldDescriptor (TJ6 k).2.2.1 = some (tyJ6 k) := by decide +kernel
abbrev cJ6_bitCount_0f7a4 : ByteArray := prog_10_method_49_code
def yJ6_bitCount_0f7a4 : MethodName := ⟨RJ6, "bitCount", "(I)I"⟩
def RJ9 : String := "java/lang/Math"
def TJ9 : u_T := fun k => match k with
  | _ => ("", "", "", false)
def tyJ9 : Nat → FieldType := fun k => match k with
  | _ => .int
abbrev wsJ90 : List Cond := u_ws RJ9 TJ9 0
theorem nmJ9 : ∀ a, a < 0 → ∀ b, b < 0 → a ≠ b → (TJ9 a).2.1 ≠ (TJ9 b).2.1 := by decide +kernel
theorem tyJ9_ok : ∀ k, k < 0 → parseFieldDescriptor (TJ9 k).2.2.1 = some (tyJ9 k) := by decide +kernel
abbrev cJ9_max_7cf53 : ByteArray := prog_11_method_65_code
def yJ9_max_7cf53 : MethodName := ⟨RJ9, "max", "(II)I"⟩
abbrev cJ9_min_7cf53 : ByteArray := prog_11_method_69_code
def yJ9_min_7cf53 : MethodName := ⟨RJ9, "min", "(II)I"⟩
def RJ0 : String := "java/lang/String"
def TJ0 : u_T := fun k => match k with
  | _ => ("", "", "", false)
def tyJ0 : Nat → FieldType := fun k => match k with
  | _ => .int
abbrev wsJ00 : List Cond := u_ws RJ0 TJ0 0
theorem nmJ0 : ∀ a, a < 0 → ∀ b, b < 0 → a ≠ b → (TJ0 a).2.1 ≠ (TJ0 b).2.1 := by decide +kernel
theorem tyJ0_ok : ∀ k, k < 0 → parseFieldDescriptor (TJ0 k).2.2.1 = some (tyJ0 k) := by decide +kernel
abbrev cJ0_length_8abf5 : ByteArray := prog_12_method_54_code
def yJ0_length_8abf5 : MethodName := ⟨RJ0, "length", "()I"⟩
abbrev cJ0_charAt_5068e : ByteArray := prog_12_method_56_code
def yJ0_charAt_5068e : MethodName := ⟨RJ0, "charAt", "(I)C"⟩
abbrev cJ0_coder_7d493 : ByteArray := prog_12_method_152_code
def yJ0_coder_7d493 : MethodName := ⟨RJ0, "coder", "()B"⟩
abbrev cJ0_isLatin1_aae02 : ByteArray := prog_12_method_154_code
def yJ0_isLatin1_aae02 : MethodName := ⟨RJ0, "isLatin1", "()Z"⟩
abbrev cJ0_checkIndex_df160 : ByteArray := prog_12_method_155_code
def yJ0_checkIndex_df160 : MethodName := ⟨RJ0, "checkIndex", "(II)V"⟩
def RJ1 : String := "java/lang/StringLatin1"
def TJ1 : u_T := fun k => match k with
  | _ => ("", "", "", false)
def tyJ1 : Nat → FieldType := fun k => match k with
  | _ => .int
abbrev wsJ10 : List Cond := u_ws RJ1 TJ1 0
theorem nmJ1 : ∀ a, a < 0 → ∀ b, b < 0 → a ≠ b → (TJ1 a).2.1 ≠ (TJ1 b).2.1 := by decide +kernel
theorem tyJ1_ok : ∀ k, k < 0 → parseFieldDescriptor (TJ1 k).2.2.1 = some (tyJ1 k) := by decide +kernel
abbrev cJ1_charAt_3b067 : ByteArray := prog_13_method_2_code
def yJ1_charAt_3b067 : MethodName := ⟨RJ1, "charAt", "([BI)C"⟩
def RJ2 : String := "java/lang/StringUTF16"
def TJ2 : u_T := fun k => match k with
  | _ => ("", "", "", false)
def tyJ2 : Nat → FieldType := fun k => match k with
  | _ => .int
abbrev wsJ20 : List Cond := u_ws RJ2 TJ2 0
theorem nmJ2 : ∀ a, a < 0 → ∀ b, b < 0 → a ≠ b → (TJ2 a).2.1 ≠ (TJ2 b).2.1 := by decide +kernel
theorem tyJ2_ok : ∀ k, k < 0 → parseFieldDescriptor (TJ2 k).2.2.1 = some (tyJ2 k) := by decide +kernel
abbrev cJ2_getChar_3b067 : ByteArray := prog_14_method_5_code
def yJ2_getChar_3b067 : MethodName := ⟨RJ2, "getChar", "([BI)C"⟩
abbrev cJ2_length_9d52b : ByteArray := prog_14_method_6_code
def yJ2_length_9d52b : MethodName := ⟨RJ2, "length", "([B)I"⟩
abbrev cJ2_charAt_3b067 : ByteArray := prog_14_method_83_code
def yJ2_charAt_3b067 : MethodName := ⟨RJ2, "charAt", "([BI)C"⟩
abbrev cJ2_checkIndex_2214a : ByteArray := prog_14_method_91_code
def yJ2_checkIndex_2214a : MethodName := ⟨RJ2, "checkIndex", "(I[B)V"⟩
def RJ10 : String := "java/lang/System"
def TJ10 : u_T := fun k => match k with
  | _ => ("", "", "", false)
def tyJ10 : Nat → FieldType := fun k => match k with
  | _ => .int
abbrev wsJ100 : List Cond := u_ws RJ10 TJ10 0
theorem nmJ10 : ∀ a, a < 0 → ∀ b, b < 0 → a ≠ b → (TJ10 a).2.1 ≠ (TJ10 b).2.1 := by decide +kernel
theorem tyJ10_ok : ∀ k, k < 0 → parseFieldDescriptor (TJ10 k).2.2.1 = some (tyJ10 k) := by decide +kernel
def RJxfd54e : String := "java/lang/constant/Constable"
def TJxfd54e : u_T := fun k => match k with
  | _ => ("", "", "", false)
def tyJxfd54e : Nat → FieldType := fun k => match k with
  | _ => .int
abbrev wsJxfd54e0 : List Cond := u_ws RJxfd54e TJxfd54e 0
theorem nmJxfd54e : ∀ a, a < 0 → ∀ b, b < 0 → a ≠ b → (TJxfd54e a).2.1 ≠ (TJxfd54e b).2.1 := by decide +kernel
theorem tyJxfd54e_ok : ∀ k, k < 0 → parseFieldDescriptor (TJxfd54e k).2.2.1 = some (tyJxfd54e k) := by decide +kernel
def RJx3cf43 : String := "java/lang/constant/ConstantDesc"
def TJx3cf43 : u_T := fun k => match k with
  | _ => ("", "", "", false)
def tyJx3cf43 : Nat → FieldType := fun k => match k with
  | _ => .int
abbrev wsJx3cf430 : List Cond := u_ws RJx3cf43 TJx3cf43 0
theorem nmJx3cf43 : ∀ a, a < 0 → ∀ b, b < 0 → a ≠ b → (TJx3cf43 a).2.1 ≠ (TJx3cf43 b).2.1 := by decide +kernel
theorem tyJx3cf43_ok : ∀ k, k < 0 → parseFieldDescriptor (TJx3cf43 k).2.2.1 = some (tyJx3cf43 k) := by decide +kernel
def RJ7 : String := "java/util/Arrays"
def TJ7 : u_T := fun k => match k with
  | _ => ("", "", "", false)
def tyJ7 : Nat → FieldType := fun k => match k with
  | _ => .int
abbrev wsJ70 : List Cond := u_ws RJ7 TJ7 0
theorem nmJ7 : ∀ a, a < 0 → ∀ b, b < 0 → a ≠ b → (TJ7 a).2.1 ≠ (TJ7 b).2.1 := by decide +kernel
theorem tyJ7_ok : ∀ k, k < 0 → parseFieldDescriptor (TJ7 k).2.2.1 = some (tyJ7 k) := by decide +kernel
abbrev cJ7_fill_53178 : ByteArray := prog_16_method_103_code
def yJ7_fill_53178 : MethodName := ⟨RJ7, "fill", "([II)V"⟩
def RJ3 : String := "jdk/internal/util/Preconditions"
def TJ3 : u_T := fun k => match k with
  | _ => ("", "", "", false)
def tyJ3 : Nat → FieldType := fun k => match k with
  | _ => .int
abbrev wsJ30 : List Cond := u_ws RJ3 TJ3 0
theorem nmJ3 : ∀ a, a < 0 → ∀ b, b < 0 → a ≠ b → (TJ3 a).2.1 ≠ (TJ3 b).2.1 := by decide +kernel
theorem tyJ3_ok : ∀ k, k < 0 → parseFieldDescriptor (TJ3 k).2.2.1 = some (tyJ3 k) := by decide +kernel
abbrev cJ3_checkIndex_8e157 : ByteArray := prog_17_method_11_code
def yJ3_checkIndex_8e157 : MethodName := ⟨RJ3, "checkIndex", "(IILjava/util/function/BiFunction;)I"⟩
def RL : String := "DrownedNamesLaw"
abbrev cL_law : ByteArray := code
set_option maxRecDepth 20000 in
theorem inX0 : ∀ w ∈ wsX00, w ∈ lw_tbl := by decide +kernel
set_option maxRecDepth 20000 in
theorem inX1 : ∀ w ∈ wsX10, w ∈ lw_tbl := by decide +kernel
set_option maxRecDepth 20000 in
theorem inX2 : ∀ w ∈ wsX20, w ∈ lw_tbl := by decide +kernel
set_option maxRecDepth 20000 in
theorem inX3 : ∀ w ∈ wsX30, w ∈ lw_tbl := by decide +kernel
set_option maxRecDepth 20000 in
theorem inX4 : ∀ w ∈ wsX40, w ∈ lw_tbl := by decide +kernel
set_option maxRecDepth 20000 in
theorem inX5 : ∀ w ∈ wsX50, w ∈ lw_tbl := by decide +kernel
set_option maxRecDepth 20000 in
theorem inX6 : ∀ w ∈ wsX60, w ∈ lw_tbl := by decide +kernel
set_option maxRecDepth 20000 in
theorem inX7 : ∀ w ∈ wsX70, w ∈ lw_tbl := by decide +kernel
set_option maxRecDepth 20000 in
theorem inJx145de : ∀ w ∈ wsJx145de0, w ∈ lw_tbl := by decide +kernel
set_option maxRecDepth 20000 in
theorem inJx9f9b0 : ∀ w ∈ wsJx9f9b00, w ∈ lw_tbl := by decide +kernel
set_option maxRecDepth 20000 in
theorem inJxb160c : ∀ w ∈ wsJxb160c0, w ∈ lw_tbl := by decide +kernel
set_option maxRecDepth 20000 in
theorem inJ6 : ∀ w ∈ wsJ60, w ∈ lw_tbl := by decide +kernel
set_option maxRecDepth 20000 in
theorem inJ9 : ∀ w ∈ wsJ90, w ∈ lw_tbl := by decide +kernel
set_option maxRecDepth 20000 in
theorem inJ0 : ∀ w ∈ wsJ00, w ∈ lw_tbl := by decide +kernel
set_option maxRecDepth 20000 in
theorem inJ1 : ∀ w ∈ wsJ10, w ∈ lw_tbl := by decide +kernel
set_option maxRecDepth 20000 in
theorem inJ2 : ∀ w ∈ wsJ20, w ∈ lw_tbl := by decide +kernel
set_option maxRecDepth 20000 in
theorem inJ10 : ∀ w ∈ wsJ100, w ∈ lw_tbl := by decide +kernel
set_option maxRecDepth 20000 in
theorem inJxfd54e : ∀ w ∈ wsJxfd54e0, w ∈ lw_tbl := by decide +kernel
set_option maxRecDepth 20000 in
theorem inJx3cf43 : ∀ w ∈ wsJx3cf430, w ∈ lw_tbl := by decide +kernel
set_option maxRecDepth 20000 in
theorem inJ7 : ∀ w ∈ wsJ70, w ∈ lw_tbl := by decide +kernel
set_option maxRecDepth 20000 in
theorem inJ3 : ∀ w ∈ wsJ30, w ∈ lw_tbl := by decide +kernel
abbrev vwCl : List vw_C := [(RX0, TX0, 7), (RX1, TX1, 14), (RX2, TX2, 3), (RX3, TX3, 7), (RX4, TX4, 4), (RX5, TX5, 4), (RX6, TX6, 11), (RX7, TX7, 26)]
