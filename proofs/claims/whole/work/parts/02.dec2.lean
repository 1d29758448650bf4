theorem dX6_withYear_7 : decode cX6_withYear 7 = .ok (.iconst 0, 1) := by decide +kernel
theorem dX6_withYear_8 : decode cX6_withYear 8 = .ok (.invokevirtual 357, 3) := by decide +kernel
theorem dX6_withYear_11 : decode cX6_withYear 11 = .ok (.i2l, 1) := by decide +kernel
theorem dX6_withYear_12 : decode cX6_withYear 12 = .ok (.ladd, 1) := by decide +kernel
theorem dX6_withYear_13 : decode cX6_withYear 13 = .ok (.lstore 4, 2) := by decide +kernel
theorem dX6_withYear_15 : decode cX6_withYear 15 = .ok (.ldc2_w 289, 3) := by decide +kernel
theorem dX6_withYear_18 : decode cX6_withYear 18 = .ok (.lload 4, 2) := by decide +kernel
theorem dX6_withYear_20 : decode cX6_withYear 20 = .ok (.lmul, 1) := by decide +kernel
theorem dX6_withYear_21 : decode cX6_withYear 21 = .ok (.aload_n 0, 1) := by decide +kernel
theorem dX6_withYear_22 : decode cX6_withYear 22 = .ok (.iload_n 3, 1) := by decide +kernel
theorem dX6_withYear_23 : decode cX6_withYear 23 = .ok (.iconst 1, 1) := by decide +kernel
theorem dX6_withYear_24 : decode cX6_withYear 24 = .ok (.invokevirtual 357, 3) := by decide +kernel
theorem dX6_withYear_27 : decode cX6_withYear 27 = .ok (.i2l, 1) := by decide +kernel
theorem dX6_withYear_28 : decode cX6_withYear 28 = .ok (.ladd, 1) := by decide +kernel
theorem dX6_withYear_29 : decode cX6_withYear 29 = .ok (.lreturn, 1) := by decide +kernel
theorem dX6_textAt_0 : decode cX6_textAt 0 = .ok (.iload_n 1, 1) := by decide +kernel
theorem dX6_textAt_1 : decode cX6_textAt 1 = .ok (.tableswitch 42 0 2 #[27, 32, 37], 27) := by decide +kernel
theorem dX6_textAt_28 : decode cX6_textAt 28 = .ok (.aload_n 0, 1) := by decide +kernel
theorem dX6_textAt_29 : decode cX6_textAt 29 = .ok (.getfield 16, 3) := by decide +kernel
theorem dX6_textAt_32 : decode cX6_textAt 32 = .ok (.areturn, 1) := by decide +kernel
theorem dX6_textAt_33 : decode cX6_textAt 33 = .ok (.aload_n 0, 1) := by decide +kernel
theorem dX6_textAt_34 : decode cX6_textAt 34 = .ok (.getfield 22, 3) := by decide +kernel
theorem dX6_textAt_37 : decode cX6_textAt 37 = .ok (.areturn, 1) := by decide +kernel
theorem dX6_textAt_38 : decode cX6_textAt 38 = .ok (.aload_n 0, 1) := by decide +kernel
theorem dX6_textAt_39 : decode cX6_textAt 39 = .ok (.getfield 27, 3) := by decide +kernel
theorem dX6_textAt_42 : decode cX6_textAt 42 = .ok (.areturn, 1) := by decide +kernel
theorem dX6_textAt_43 : decode cX6_textAt 43 = .ok (.aconst_null, 1) := by decide +kernel
theorem dX6_textAt_44 : decode cX6_textAt 44 = .ok (.areturn, 1) := by decide +kernel
theorem dX6_sheetAt_0 : decode cX6_sheetAt 0 = .ok (.iload_n 1, 1) := by decide +kernel
theorem dX6_sheetAt_1 : decode cX6_sheetAt 1 = .ok (.iconst 3, 1) := by decide +kernel
theorem dX6_sheetAt_2 : decode cX6_sheetAt 2 = .ok (.invokestatic 78, 3) := by decide +kernel
theorem dX6_sheetAt_5 : decode cX6_sheetAt 5 = .ok (.ifCond .eq 12, 3) := by decide +kernel
theorem dX6_sheetAt_8 : decode cX6_sheetAt 8 = .ok (.aload_n 0, 1) := by decide +kernel
theorem dX6_sheetAt_9 : decode cX6_sheetAt 9 = .ok (.getfield 41, 3) := by decide +kernel
theorem dX6_sheetAt_12 : decode cX6_sheetAt 12 = .ok (.iload_n 1, 1) := by decide +kernel
theorem dX6_sheetAt_13 : decode cX6_sheetAt 13 = .ok (.aaload, 1) := by decide +kernel
theorem dX6_sheetAt_14 : decode cX6_sheetAt 14 = .ok (.goto 4, 3) := by decide +kernel
theorem dX6_sheetAt_17 : decode cX6_sheetAt 17 = .ok (.aconst_null, 1) := by decide +kernel
theorem dX6_sheetAt_18 : decode cX6_sheetAt 18 = .ok (.areturn, 1) := by decide +kernel
theorem dX6_settle_0 : decode cX6_settle 0 = .ok (.aload_n 0, 1) := by decide +kernel
theorem dX6_settle_1 : decode cX6_settle 1 = .ok (.getfield 53, 3) := by decide +kernel
theorem dX6_settle_4 : decode cX6_settle 4 = .ok (.aload_n 0, 1) := by decide +kernel
theorem dX6_settle_5 : decode cX6_settle 5 = .ok (.getfield 16, 3) := by decide +kernel
theorem dX6_settle_8 : decode cX6_settle 8 = .ok (.invokevirtual 360, 3) := by decide +kernel
theorem dX6_settle_11 : decode cX6_settle 11 = .ok (.aload_n 0, 1) := by decide +kernel
theorem dX6_settle_12 : decode cX6_settle 12 = .ok (.getfield 53, 3) := by decide +kernel
theorem dX6_settle_15 : decode cX6_settle 15 = .ok (.aload_n 0, 1) := by decide +kernel
theorem dX6_settle_16 : decode cX6_settle 16 = .ok (.getfield 22, 3) := by decide +kernel
theorem dX6_settle_19 : decode cX6_settle 19 = .ok (.invokevirtual 364, 3) := by decide +kernel
theorem dX6_settle_22 : decode cX6_settle 22 = .ok (.aload_n 0, 1) := by decide +kernel
theorem dX6_settle_23 : decode cX6_settle 23 = .ok (.getfield 53, 3) := by decide +kernel
theorem dX6_settle_26 : decode cX6_settle 26 = .ok (.aload_n 0, 1) := by decide +kernel
theorem dX6_settle_27 : decode cX6_settle 27 = .ok (.getfield 27, 3) := by decide +kernel
theorem dX6_settle_30 : decode cX6_settle 30 = .ok (.invokevirtual 367, 3) := by decide +kernel
theorem dX6_settle_33 : decode cX6_settle 33 = .ok (.aload_n 0, 1) := by decide +kernel
theorem dX6_settle_34 : decode cX6_settle 34 = .ok (.getfield 53, 3) := by decide +kernel
theorem dX6_settle_37 : decode cX6_settle 37 = .ok (.aload_n 0, 1) := by decide +kernel
theorem dX6_settle_38 : decode cX6_settle 38 = .ok (.getfield 138, 3) := by decide +kernel
theorem dX6_settle_41 : decode cX6_settle 41 = .ok (.invokevirtual 220, 3) := by decide +kernel
theorem dX6_settle_44 : decode cX6_settle 44 = .ok (.return_, 1) := by decide +kernel
theorem dX6_found_0 : decode cX6_found 0 = .ok (.aload_n 0, 1) := by decide +kernel
theorem dX6_found_1 : decode cX6_found 1 = .ok (.iload_n 1, 1) := by decide +kernel
theorem dX6_found_2 : decode cX6_found 2 = .ok (.putfield 284, 3) := by decide +kernel
theorem dX6_found_5 : decode cX6_found 5 = .ok (.bipush (-10), 2) := by decide +kernel
theorem dX6_found_7 : decode cX6_found 7 = .ok (.iload_n 1, 1) := by decide +kernel
theorem dX6_found_8 : decode cX6_found 8 = .ok (.isub, 1) := by decide +kernel
theorem dX6_found_9 : decode cX6_found 9 = .ok (.ireturn, 1) := by decide +kernel
theorem dX6_isWithin_0 : decode cX6_isWithin 0 = .ok (.iload_n 0, 1) := by decide +kernel
theorem dX6_isWithin_1 : decode cX6_isWithin 1 = .ok (.ifCond .lt 12, 3) := by decide +kernel
theorem dX6_isWithin_4 : decode cX6_isWithin 4 = .ok (.iload_n 0, 1) := by decide +kernel
theorem dX6_isWithin_5 : decode cX6_isWithin 5 = .ok (.iload_n 1, 1) := by decide +kernel
theorem dX6_isWithin_6 : decode cX6_isWithin 6 = .ok (.if_icmp .gt 7, 3) := by decide +kernel
theorem dX6_isWithin_9 : decode cX6_isWithin 9 = .ok (.iconst 1, 1) := by decide +kernel
theorem dX6_isWithin_10 : decode cX6_isWithin 10 = .ok (.goto 4, 3) := by decide +kernel
theorem dX6_isWithin_13 : decode cX6_isWithin 13 = .ok (.iconst 0, 1) := by decide +kernel
theorem dX6_isWithin_14 : decode cX6_isWithin 14 = .ok (.ireturn, 1) := by decide +kernel
theorem dX6_isYear_0 : decode cX6_isYear 0 = .ok (.iload_n 0, 1) := by decide +kernel
theorem dX6_isYear_1 : decode cX6_isYear 1 = .ok (.bipush 29, 2) := by decide +kernel
theorem dX6_isYear_3 : decode cX6_isYear 3 = .ok (.invokestatic 78, 3) := by decide +kernel
theorem dX6_isYear_6 : decode cX6_isYear 6 = .ok (.ireturn, 1) := by decide +kernel
theorem dX6_isForm_0 : decode cX6_isForm 0 = .ok (.iload_n 0, 1) := by decide +kernel
theorem dX6_isForm_1 : decode cX6_isForm 1 = .ok (.iconst 2, 1) := by decide +kernel
theorem dX6_isForm_2 : decode cX6_isForm 2 = .ok (.invokestatic 78, 3) := by decide +kernel
theorem dX6_isForm_5 : decode cX6_isForm 5 = .ok (.ireturn, 1) := by decide +kernel
theorem dX6_isLoss_0 : decode cX6_isLoss 0 = .ok (.iload_n 0, 1) := by decide +kernel
theorem dX6_isLoss_1 : decode cX6_isLoss 1 = .ok (.invokestatic 176, 3) := by decide +kernel
theorem dX6_isLoss_4 : decode cX6_isLoss 4 = .ok (.ifCond .eq 15, 3) := by decide +kernel
theorem dX6_isLoss_7 : decode cX6_isLoss 7 = .ok (.iload_n 1, 1) := by decide +kernel
theorem dX6_isLoss_8 : decode cX6_isLoss 8 = .ok (.iconst 5, 1) := by decide +kernel
theorem dX6_isLoss_9 : decode cX6_isLoss 9 = .ok (.invokestatic 78, 3) := by decide +kernel
theorem dX6_isLoss_12 : decode cX6_isLoss 12 = .ok (.ifCond .eq 7, 3) := by decide +kernel
theorem dX6_isLoss_15 : decode cX6_isLoss 15 = .ok (.iconst 1, 1) := by decide +kernel
theorem dX6_isLoss_16 : decode cX6_isLoss 16 = .ok (.goto 4, 3) := by decide +kernel
theorem dX6_isLoss_19 : decode cX6_isLoss 19 = .ok (.iconst 0, 1) := by decide +kernel
theorem dX6_isLoss_20 : decode cX6_isLoss 20 = .ok (.ireturn, 1) := by decide +kernel
theorem dX6_partOfFraction_0 : decode cX6_partOfFraction 0 = .ok (.iload_n 0, 1) := by decide +kernel
theorem dX6_partOfFraction_1 : decode cX6_partOfFraction 1 = .ok (.istore_n 3, 1) := by decide +kernel
theorem dX6_partOfFraction_2 : decode cX6_partOfFraction 2 = .ok (.iload_n 1, 1) := by decide +kernel
theorem dX6_partOfFraction_3 : decode cX6_partOfFraction 3 = .ok (.istore 4, 2) := by decide +kernel
theorem dX6_partOfFraction_5 : decode cX6_partOfFraction 5 = .ok (.iload 4, 2) := by decide +kernel
theorem dX6_partOfFraction_7 : decode cX6_partOfFraction 7 = .ok (.iconst 1, 1) := by decide +kernel
theorem dX6_partOfFraction_8 : decode cX6_partOfFraction 8 = .ok (.if_icmp .le 22, 3) := by decide +kernel
theorem dX6_partOfFraction_11 : decode cX6_partOfFraction 11 = .ok (.iload_n 3, 1) := by decide +kernel
theorem dX6_partOfFraction_12 : decode cX6_partOfFraction 12 = .ok (.iconst 2, 1) := by decide +kernel
theorem dX6_partOfFraction_13 : decode cX6_partOfFraction 13 = .ok (.irem, 1) := by decide +kernel
theorem dX6_partOfFraction_14 : decode cX6_partOfFraction 14 = .ok (.ifCond .ne 16, 3) := by decide +kernel
theorem dX6_partOfFraction_17 : decode cX6_partOfFraction 17 = .ok (.iload_n 3, 1) := by decide +kernel
theorem dX6_partOfFraction_18 : decode cX6_partOfFraction 18 = .ok (.iconst 2, 1) := by decide +kernel
theorem dX6_partOfFraction_19 : decode cX6_partOfFraction 19 = .ok (.idiv, 1) := by decide +kernel
theorem dX6_partOfFraction_20 : decode cX6_partOfFraction 20 = .ok (.istore_n 3, 1) := by decide +kernel
theorem dX6_partOfFraction_21 : decode cX6_partOfFraction 21 = .ok (.iload 4, 2) := by decide +kernel
theorem dX6_partOfFraction_23 : decode cX6_partOfFraction 23 = .ok (.iconst 2, 1) := by decide +kernel
theorem dX6_partOfFraction_24 : decode cX6_partOfFraction 24 = .ok (.idiv, 1) := by decide +kernel
theorem dX6_partOfFraction_25 : decode cX6_partOfFraction 25 = .ok (.istore 4, 2) := by decide +kernel
theorem dX6_partOfFraction_27 : decode cX6_partOfFraction 27 = .ok (.goto (-22), 3) := by decide +kernel
theorem dX6_partOfFraction_30 : decode cX6_partOfFraction 30 = .ok (.iload_n 2, 1) := by decide +kernel
theorem dX6_partOfFraction_31 : decode cX6_partOfFraction 31 = .ok (.ifCond .ne 8, 3) := by decide +kernel
theorem dX6_partOfFraction_34 : decode cX6_partOfFraction 34 = .ok (.iload_n 3, 1) := by decide +kernel
theorem dX6_partOfFraction_35 : decode cX6_partOfFraction 35 = .ok (.i2l, 1) := by decide +kernel
theorem dX6_partOfFraction_36 : decode cX6_partOfFraction 36 = .ok (.goto 6, 3) := by decide +kernel
theorem dX6_partOfFraction_39 : decode cX6_partOfFraction 39 = .ok (.iload 4, 2) := by decide +kernel
theorem dX6_partOfFraction_41 : decode cX6_partOfFraction 41 = .ok (.i2l, 1) := by decide +kernel
theorem dX6_partOfFraction_42 : decode cX6_partOfFraction 42 = .ok (.lreturn, 1) := by decide +kernel
theorem dX7_init_0 : decode cX7_init 0 = .ok (.aload_n 0, 1) := by decide +kernel
theorem dX7_init_1 : decode cX7_init 1 = .ok (.invokespecial 1, 3) := by decide +kernel
theorem dX7_init_4 : decode cX7_init 4 = .ok (.aload_n 0, 1) := by decide +kernel
theorem dX7_init_5 : decode cX7_init 5 = .ok (.iconst 4, 1) := by decide +kernel
theorem dX7_init_6 : decode cX7_init 6 = .ok (.newarray .int, 2) := by decide +kernel
theorem dX7_init_8 : decode cX7_init 8 = .ok (.putfield 7, 3) := by decide +kernel
theorem dX7_init_11 : decode cX7_init 11 = .ok (.aload_n 0, 1) := by decide +kernel
theorem dX7_init_12 : decode cX7_init 12 = .ok (.iconst 4, 1) := by decide +kernel
theorem dX7_init_13 : decode cX7_init 13 = .ok (.newarray .int, 2) := by decide +kernel
theorem dX7_init_15 : decode cX7_init 15 = .ok (.putfield 13, 3) := by decide +kernel
theorem dX7_init_18 : decode cX7_init 18 = .ok (.aload_n 0, 1) := by decide +kernel
theorem dX7_init_19 : decode cX7_init 19 = .ok (.sipush 240, 3) := by decide +kernel
theorem dX7_init_22 : decode cX7_init 22 = .ok (.newarray .int, 2) := by decide +kernel
theorem dX7_init_24 : decode cX7_init 24 = .ok (.putfield 16, 3) := by decide +kernel
theorem dX7_init_27 : decode cX7_init 27 = .ok (.aload_n 0, 1) := by decide +kernel
theorem dX7_init_28 : decode cX7_init 28 = .ok (.bipush 60, 2) := by decide +kernel
theorem dX7_init_30 : decode cX7_init 30 = .ok (.newarray .int, 2) := by decide +kernel
theorem dX7_init_32 : decode cX7_init 32 = .ok (.putfield 19, 3) := by decide +kernel
theorem dX7_init_35 : decode cX7_init 35 = .ok (.aload_n 0, 1) := by decide +kernel
theorem dX7_init_36 : decode cX7_init 36 = .ok (.sipush 180, 3) := by decide +kernel
theorem dX7_init_39 : decode cX7_init 39 = .ok (.newarray .int, 2) := by decide +kernel
theorem dX7_init_41 : decode cX7_init 41 = .ok (.putfield 22, 3) := by decide +kernel
theorem dX7_init_44 : decode cX7_init 44 = .ok (.aload_n 0, 1) := by decide +kernel
theorem dX7_init_45 : decode cX7_init 45 = .ok (.iconst 3, 1) := by decide +kernel
theorem dX7_init_46 : decode cX7_init 46 = .ok (.newarray .int, 2) := by decide +kernel
theorem dX7_init_48 : decode cX7_init 48 = .ok (.putfield 25, 3) := by decide +kernel
theorem dX7_init_51 : decode cX7_init 51 = .ok (.aload_n 0, 1) := by decide +kernel
theorem dX7_init_52 : decode cX7_init 52 = .ok (.iconst 3, 1) := by decide +kernel
theorem dX7_init_53 : decode cX7_init 53 = .ok (.newarray .int, 2) := by decide +kernel
theorem dX7_init_55 : decode cX7_init 55 = .ok (.putfield 28, 3) := by decide +kernel
theorem dX7_init_58 : decode cX7_init 58 = .ok (.aload_n 0, 1) := by decide +kernel
theorem dX7_init_59 : decode cX7_init 59 = .ok (.bipush 12, 2) := by decide +kernel
theorem dX7_init_61 : decode cX7_init 61 = .ok (.newarray .int, 2) := by decide +kernel
theorem dX7_init_63 : decode cX7_init 63 = .ok (.putfield 31, 3) := by decide +kernel
theorem dX7_init_66 : decode cX7_init 66 = .ok (.aload_n 0, 1) := by decide +kernel
theorem dX7_init_67 : decode cX7_init 67 = .ok (.bipush 24, 2) := by decide +kernel
theorem dX7_init_69 : decode cX7_init 69 = .ok (.newarray .int, 2) := by decide +kernel
theorem dX7_init_71 : decode cX7_init 71 = .ok (.putfield 34, 3) := by decide +kernel
theorem dX7_init_74 : decode cX7_init 74 = .ok (.aload_n 0, 1) := by decide +kernel
theorem dX7_init_75 : decode cX7_init 75 = .ok (.bipush 36, 2) := by decide +kernel
theorem dX7_init_77 : decode cX7_init 77 = .ok (.newarray .int, 2) := by decide +kernel
theorem dX7_init_79 : decode cX7_init 79 = .ok (.putfield 37, 3) := by decide +kernel
theorem dX7_init_82 : decode cX7_init 82 = .ok (.aload_n 0, 1) := by decide +kernel
theorem dX7_init_83 : decode cX7_init 83 = .ok (.bipush 24, 2) := by decide +kernel
theorem dX7_init_85 : decode cX7_init 85 = .ok (.newarray .int, 2) := by decide +kernel
theorem dX7_init_87 : decode cX7_init 87 = .ok (.putfield 40, 3) := by decide +kernel
theorem dX7_init_90 : decode cX7_init 90 = .ok (.aload_n 0, 1) := by decide +kernel
theorem dX7_init_91 : decode cX7_init 91 = .ok (.bipush 8, 2) := by decide +kernel
theorem dX7_init_93 : decode cX7_init 93 = .ok (.newarray .int, 2) := by decide +kernel
theorem dX7_init_95 : decode cX7_init 95 = .ok (.putfield 43, 3) := by decide +kernel
theorem dX7_init_98 : decode cX7_init 98 = .ok (.aload_n 0, 1) := by decide +kernel
theorem dX7_init_99 : decode cX7_init 99 = .ok (.bipush 6, 2) := by decide +kernel
theorem dX7_init_101 : decode cX7_init 101 = .ok (.newarray .int, 2) := by decide +kernel
theorem dX7_init_103 : decode cX7_init 103 = .ok (.putfield 46, 3) := by decide +kernel
theorem dX7_init_106 : decode cX7_init 106 = .ok (.aload_n 0, 1) := by decide +kernel
theorem dX7_init_107 : decode cX7_init 107 = .ok (.bipush 16, 2) := by decide +kernel
theorem dX7_init_109 : decode cX7_init 109 = .ok (.newarray .int, 2) := by decide +kernel
theorem dX7_init_111 : decode cX7_init 111 = .ok (.putfield 49, 3) := by decide +kernel
theorem dX7_init_114 : decode cX7_init 114 = .ok (.aload_n 0, 1) := by decide +kernel
theorem dX7_init_115 : decode cX7_init 115 = .ok (.sipush 256, 3) := by decide +kernel
theorem dX7_init_118 : decode cX7_init 118 = .ok (.newarray .int, 2) := by decide +kernel
theorem dX7_init_120 : decode cX7_init 120 = .ok (.putfield 52, 3) := by decide +kernel
theorem dX7_init_123 : decode cX7_init 123 = .ok (.iconst 0, 1) := by decide +kernel
theorem dX7_init_124 : decode cX7_init 124 = .ok (.istore_n 1, 1) := by decide +kernel
theorem dX7_init_125 : decode cX7_init 125 = .ok (.iload_n 1, 1) := by decide +kernel
theorem dX7_init_126 : decode cX7_init 126 = .ok (.iconst 4, 1) := by decide +kernel
theorem dX7_init_127 : decode cX7_init 127 = .ok (.if_icmp .ge 16, 3) := by decide +kernel
theorem dX7_init_130 : decode cX7_init 130 = .ok (.aload_n 0, 1) := by decide +kernel
theorem dX7_init_131 : decode cX7_init 131 = .ok (.getfield 7, 3) := by decide +kernel
theorem dX7_init_134 : decode cX7_init 134 = .ok (.iload_n 1, 1) := by decide +kernel
theorem dX7_init_135 : decode cX7_init 135 = .ok (.iconst (-1), 1) := by decide +kernel
theorem dX7_init_136 : decode cX7_init 136 = .ok (.iastore, 1) := by decide +kernel
theorem dX7_init_137 : decode cX7_init 137 = .ok (.iinc 1 1, 3) := by decide +kernel
theorem dX7_init_140 : decode cX7_init 140 = .ok (.goto (-15), 3) := by decide +kernel
theorem dX7_init_143 : decode cX7_init 143 = .ok (.aload_n 0, 1) := by decide +kernel
theorem dX7_init_144 : decode cX7_init 144 = .ok (.sipush 255, 3) := by decide +kernel
theorem dX7_init_147 : decode cX7_init 147 = .ok (.putfield 55, 3) := by decide +kernel
theorem dX7_init_150 : decode cX7_init 150 = .ok (.return_, 1) := by decide +kernel
theorem dX7_in_0 : decode cX7_in 0 = .ok (.lload_n 0, 1) := by decide +kernel
theorem dX7_in_1 : decode cX7_in 1 = .ok (.lload_n 2, 1) := by decide +kernel
theorem dX7_in_2 : decode cX7_in 2 = .ok (.lcmp, 1) := by decide +kernel
theorem dX7_in_3 : decode cX7_in 3 = .ok (.ifCond .lt 14, 3) := by decide +kernel
theorem dX7_in_6 : decode cX7_in 6 = .ok (.lload_n 0, 1) := by decide +kernel
theorem dX7_in_7 : decode cX7_in 7 = .ok (.lload 4, 2) := by decide +kernel
theorem dX7_in_9 : decode cX7_in 9 = .ok (.lcmp, 1) := by decide +kernel
theorem dX7_in_10 : decode cX7_in 10 = .ok (.ifCond .gt 7, 3) := by decide +kernel
theorem dX7_in_13 : decode cX7_in 13 = .ok (.iconst 1, 1) := by decide +kernel
theorem dX7_in_14 : decode cX7_in 14 = .ok (.goto 4, 3) := by decide +kernel
theorem dX7_in_17 : decode cX7_in 17 = .ok (.iconst 0, 1) := by decide +kernel
theorem dX7_in_18 : decode cX7_in 18 = .ok (.ireturn, 1) := by decide +kernel
theorem dX7_no_0 : decode cX7_no 0 = .ok (.ldc2_w 59, 3) := by decide +kernel
theorem dX7_no_3 : decode cX7_no 3 = .ok (.iload_n 0, 1) := by decide +kernel
theorem dX7_no_4 : decode cX7_no 4 = .ok (.i2l, 1) := by decide +kernel
theorem dX7_no_5 : decode cX7_no 5 = .ok (.lsub, 1) := by decide +kernel
theorem dX7_no_6 : decode cX7_no 6 = .ok (.lreturn, 1) := by decide +kernel
theorem dX7_isTwo_0 : decode cX7_isTwo 0 = .ok (.iload_n 0, 1) := by decide +kernel
theorem dX7_isTwo_1 : decode cX7_isTwo 1 = .ok (.i2l, 1) := by decide +kernel
theorem dX7_isTwo_2 : decode cX7_isTwo 2 = .ok (.lconst 0, 1) := by decide +kernel
theorem dX7_isTwo_3 : decode cX7_isTwo 3 = .ok (.lconst 1, 1) := by decide +kernel
theorem dX7_isTwo_4 : decode cX7_isTwo 4 = .ok (.invokestatic 61, 3) := by decide +kernel
theorem dX7_isTwo_7 : decode cX7_isTwo 7 = .ok (.ireturn, 1) := by decide +kernel
theorem dX7_isIn_0 : decode cX7_isIn 0 = .ok (.iload_n 0, 1) := by decide +kernel
theorem dX7_isIn_1 : decode cX7_isIn 1 = .ok (.iload_n 1, 1) := by decide +kernel
theorem dX7_isIn_2 : decode cX7_isIn 2 = .ok (.ishr, 1) := by decide +kernel
theorem dX7_isIn_3 : decode cX7_isIn 3 = .ok (.iconst 1, 1) := by decide +kernel
theorem dX7_isIn_4 : decode cX7_isIn 4 = .ok (.iand, 1) := by decide +kernel
theorem dX7_isIn_5 : decode cX7_isIn 5 = .ok (.iconst 1, 1) := by decide +kernel
theorem dX7_isIn_6 : decode cX7_isIn 6 = .ok (.if_icmp .ne 7, 3) := by decide +kernel
theorem dX7_isIn_9 : decode cX7_isIn 9 = .ok (.iconst 1, 1) := by decide +kernel
theorem dX7_isIn_10 : decode cX7_isIn 10 = .ok (.goto 4, 3) := by decide +kernel
theorem dX7_isIn_13 : decode cX7_isIn 13 = .ok (.iconst 0, 1) := by decide +kernel
theorem dX7_isIn_14 : decode cX7_isIn 14 = .ok (.ireturn, 1) := by decide +kernel
theorem dX7_ones_0 : decode cX7_ones 0 = .ok (.iconst 0, 1) := by decide +kernel
theorem dX7_ones_1 : decode cX7_ones 1 = .ok (.istore_n 1, 1) := by decide +kernel
theorem dX7_ones_2 : decode cX7_ones 2 = .ok (.iload_n 0, 1) := by decide +kernel
theorem dX7_ones_3 : decode cX7_ones 3 = .ok (.istore_n 2, 1) := by decide +kernel
theorem dX7_ones_4 : decode cX7_ones 4 = .ok (.iload_n 2, 1) := by decide +kernel
theorem dX7_ones_5 : decode cX7_ones 5 = .ok (.ifCond .eq 15, 3) := by decide +kernel
theorem dX7_ones_8 : decode cX7_ones 8 = .ok (.iinc 1 1, 3) := by decide +kernel
theorem dX7_ones_11 : decode cX7_ones 11 = .ok (.iload_n 2, 1) := by decide +kernel
theorem dX7_ones_12 : decode cX7_ones 12 = .ok (.iload_n 2, 1) := by decide +kernel
theorem dX7_ones_13 : decode cX7_ones 13 = .ok (.iconst 1, 1) := by decide +kernel
theorem dX7_ones_14 : decode cX7_ones 14 = .ok (.isub, 1) := by decide +kernel
theorem dX7_ones_15 : decode cX7_ones 15 = .ok (.iand, 1) := by decide +kernel
theorem dX7_ones_16 : decode cX7_ones 16 = .ok (.istore_n 2, 1) := by decide +kernel
theorem dX7_ones_17 : decode cX7_ones 17 = .ok (.goto (-13), 3) := by decide +kernel
theorem dX7_ones_20 : decode cX7_ones 20 = .ok (.iload_n 1, 1) := by decide +kernel
theorem dX7_ones_21 : decode cX7_ones 21 = .ok (.ireturn, 1) := by decide +kernel
theorem dX7_lesser_0 : decode cX7_lesser 0 = .ok (.iload_n 0, 1) := by decide +kernel
theorem dX7_lesser_1 : decode cX7_lesser 1 = .ok (.iload_n 1, 1) := by decide +kernel
theorem dX7_lesser_2 : decode cX7_lesser 2 = .ok (.if_icmp .ge 7, 3) := by decide +kernel
theorem dX7_lesser_5 : decode cX7_lesser 5 = .ok (.iload_n 0, 1) := by decide +kernel
theorem dX7_lesser_6 : decode cX7_lesser 6 = .ok (.goto 4, 3) := by decide +kernel
theorem dX7_lesser_9 : decode cX7_lesser 9 = .ok (.iload_n 1, 1) := by decide +kernel
theorem dX7_lesser_10 : decode cX7_lesser 10 = .ok (.ireturn, 1) := by decide +kernel
theorem dX7_part_0 : decode cX7_part 0 = .ok (.lload_n 0, 1) := by decide +kernel
theorem dX7_part_1 : decode cX7_part 1 = .ok (.lstore 5, 2) := by decide +kernel
theorem dX7_part_3 : decode cX7_part 3 = .ok (.lload_n 2, 1) := by decide +kernel
theorem dX7_part_4 : decode cX7_part 4 = .ok (.lstore 7, 2) := by decide +kernel
theorem dX7_part_6 : decode cX7_part 6 = .ok (.lload 7, 2) := by decide +kernel
theorem dX7_part_8 : decode cX7_part 8 = .ok (.lconst 0, 1) := by decide +kernel
theorem dX7_part_9 : decode cX7_part 9 = .ok (.lcmp, 1) := by decide +kernel
theorem dX7_part_10 : decode cX7_part 10 = .ok (.ifCond .eq 21, 3) := by decide +kernel
theorem dX7_part_13 : decode cX7_part 13 = .ok (.lload 5, 2) := by decide +kernel
theorem dX7_part_15 : decode cX7_part 15 = .ok (.lload 7, 2) := by decide +kernel
theorem dX7_part_17 : decode cX7_part 17 = .ok (.lrem, 1) := by decide +kernel
theorem dX7_part_18 : decode cX7_part 18 = .ok (.lstore 9, 2) := by decide +kernel
theorem dX7_part_20 : decode cX7_part 20 = .ok (.lload 7, 2) := by decide +kernel
theorem dX7_part_22 : decode cX7_part 22 = .ok (.lstore 5, 2) := by decide +kernel
theorem dX7_part_24 : decode cX7_part 24 = .ok (.lload 9, 2) := by decide +kernel
theorem dX7_part_26 : decode cX7_part 26 = .ok (.lstore 7, 2) := by decide +kernel
theorem dX7_part_28 : decode cX7_part 28 = .ok (.goto (-22), 3) := by decide +kernel
theorem dX7_part_31 : decode cX7_part 31 = .ok (.iload 4, 2) := by decide +kernel
theorem dX7_part_33 : decode cX7_part 33 = .ok (.ifCond .ne 7, 3) := by decide +kernel
theorem dX7_part_36 : decode cX7_part 36 = .ok (.lload_n 0, 1) := by decide +kernel
theorem dX7_part_37 : decode cX7_part 37 = .ok (.goto 4, 3) := by decide +kernel
theorem dX7_part_40 : decode cX7_part 40 = .ok (.lload_n 2, 1) := by decide +kernel
theorem dX7_part_41 : decode cX7_part 41 = .ok (.lload 5, 2) := by decide +kernel
theorem dX7_part_43 : decode cX7_part 43 = .ok (.ldiv, 1) := by decide +kernel
theorem dX7_part_44 : decode cX7_part 44 = .ok (.lreturn, 1) := by decide +kernel
theorem dX7_finds_0 : decode cX7_finds 0 = .ok (.aload_n 0, 1) := by decide +kernel
theorem dX7_finds_1 : decode cX7_finds 1 = .ok (.iload_n 1, 1) := by decide +kernel
theorem dX7_finds_2 : decode cX7_finds 2 = .ok (.putfield 65, 3) := by decide +kernel
theorem dX7_finds_5 : decode cX7_finds 5 = .ok (.bipush (-10), 2) := by decide +kernel
theorem dX7_finds_7 : decode cX7_finds 7 = .ok (.iload_n 1, 1) := by decide +kernel
theorem dX7_finds_8 : decode cX7_finds 8 = .ok (.isub, 1) := by decide +kernel
theorem dX7_finds_9 : decode cX7_finds 9 = .ok (.ireturn, 1) := by decide +kernel
theorem dX7_isSheet_0 : decode cX7_isSheet 0 = .ok (.iload_n 0, 1) := by decide +kernel
theorem dX7_isSheet_1 : decode cX7_isSheet 1 = .ok (.i2l, 1) := by decide +kernel
theorem dX7_isSheet_2 : decode cX7_isSheet 2 = .ok (.lconst 0, 1) := by decide +kernel
theorem dX7_isSheet_3 : decode cX7_isSheet 3 = .ok (.ldc2_w 68, 3) := by decide +kernel
theorem dX7_isSheet_6 : decode cX7_isSheet 6 = .ok (.invokestatic 61, 3) := by decide +kernel
theorem dX7_isSheet_9 : decode cX7_isSheet 9 = .ok (.ireturn, 1) := by decide +kernel
theorem dX7_sheet_0 : decode cX7_sheet 0 = .ok (.iload_n 1, 1) := by decide +kernel
theorem dX7_sheet_1 : decode cX7_sheet 1 = .ok (.invokestatic 70, 3) := by decide +kernel
theorem dX7_sheet_4 : decode cX7_sheet 4 = .ok (.ifCond .eq 21, 3) := by decide +kernel
theorem dX7_sheet_7 : decode cX7_sheet 7 = .ok (.iload_n 2, 1) := by decide +kernel
theorem dX7_sheet_8 : decode cX7_sheet 8 = .ok (.i2l, 1) := by decide +kernel
theorem dX7_sheet_9 : decode cX7_sheet 9 = .ok (.lconst 0, 1) := by decide +kernel
theorem dX7_sheet_10 : decode cX7_sheet 10 = .ok (.ldc2_w 74, 3) := by decide +kernel
theorem dX7_sheet_13 : decode cX7_sheet 13 = .ok (.invokestatic 61, 3) := by decide +kernel
theorem dX7_sheet_16 : decode cX7_sheet 16 = .ok (.ifCond .eq 9, 3) := by decide +kernel
theorem dX7_sheet_19 : decode cX7_sheet 19 = .ok (.iload_n 3, 1) := by decide +kernel
theorem dX7_sheet_20 : decode cX7_sheet 20 = .ok (.bipush 60, 2) := by decide +kernel
theorem dX7_sheet_22 : decode cX7_sheet 22 = .ok (.if_icmp .le 6, 3) := by decide +kernel
theorem dX7_sheet_25 : decode cX7_sheet 25 = .ok (.bipush (-2), 2) := by decide +kernel
theorem dX7_sheet_27 : decode cX7_sheet 27 = .ok (.ireturn, 1) := by decide +kernel
theorem dX7_sheet_28 : decode cX7_sheet 28 = .ok (.iload_n 3, 1) := by decide +kernel
theorem dX7_sheet_29 : decode cX7_sheet 29 = .ok (.ifCond .ge 9, 3) := by decide +kernel
theorem dX7_sheet_32 : decode cX7_sheet 32 = .ok (.aload_n 0, 1) := by decide +kernel
theorem dX7_sheet_33 : decode cX7_sheet 33 = .ok (.iconst 5, 1) := by decide +kernel
theorem dX7_sheet_34 : decode cX7_sheet 34 = .ok (.invokevirtual 76, 3) := by decide +kernel
theorem dX7_sheet_37 : decode cX7_sheet 37 = .ok (.ireturn, 1) := by decide +kernel
theorem dX7_sheet_38 : decode cX7_sheet 38 = .ok (.aload_n 0, 1) := by decide +kernel
theorem dX7_sheet_39 : decode cX7_sheet 39 = .ok (.getfield 7, 3) := by decide +kernel
theorem dX7_sheet_42 : decode cX7_sheet 42 = .ok (.iload_n 1, 1) := by decide +kernel
theorem dX7_sheet_43 : decode cX7_sheet 43 = .ok (.iload_n 2, 1) := by decide +kernel
theorem dX7_sheet_44 : decode cX7_sheet 44 = .ok (.iastore, 1) := by decide +kernel
theorem dX7_sheet_45 : decode cX7_sheet 45 = .ok (.aload_n 0, 1) := by decide +kernel
theorem dX7_sheet_46 : decode cX7_sheet 46 = .ok (.getfield 13, 3) := by decide +kernel
theorem dX7_sheet_49 : decode cX7_sheet 49 = .ok (.iload_n 1, 1) := by decide +kernel
theorem dX7_sheet_50 : decode cX7_sheet 50 = .ok (.iload_n 3, 1) := by decide +kernel
theorem dX7_sheet_51 : decode cX7_sheet 51 = .ok (.iastore, 1) := by decide +kernel
theorem dX7_sheet_52 : decode cX7_sheet 52 = .ok (.iconst 0, 1) := by decide +kernel
theorem dX7_sheet_53 : decode cX7_sheet 53 = .ok (.istore 4, 2) := by decide +kernel
theorem dX7_sheet_55 : decode cX7_sheet 55 = .ok (.iload 4, 2) := by decide +kernel
theorem dX7_sheet_57 : decode cX7_sheet 57 = .ok (.iload_n 3, 1) := by decide +kernel
theorem dX7_sheet_58 : decode cX7_sheet 58 = .ok (.if_icmp .ge 22, 3) := by decide +kernel
theorem dX7_sheet_61 : decode cX7_sheet 61 = .ok (.aload_n 0, 1) := by decide +kernel
theorem dX7_sheet_62 : decode cX7_sheet 62 = .ok (.getfield 16, 3) := by decide +kernel
theorem dX7_sheet_65 : decode cX7_sheet 65 = .ok (.bipush 60, 2) := by decide +kernel
theorem dX7_sheet_67 : decode cX7_sheet 67 = .ok (.iload_n 1, 1) := by decide +kernel
theorem dX7_sheet_68 : decode cX7_sheet 68 = .ok (.imul, 1) := by decide +kernel
theorem dX7_sheet_69 : decode cX7_sheet 69 = .ok (.iload 4, 2) := by decide +kernel
theorem dX7_sheet_71 : decode cX7_sheet 71 = .ok (.iadd, 1) := by decide +kernel
theorem dX7_sheet_72 : decode cX7_sheet 72 = .ok (.iconst 0, 1) := by decide +kernel
theorem dX7_sheet_73 : decode cX7_sheet 73 = .ok (.iastore, 1) := by decide +kernel
theorem dX7_sheet_74 : decode cX7_sheet 74 = .ok (.iinc 4 1, 3) := by decide +kernel
theorem dX7_sheet_77 : decode cX7_sheet 77 = .ok (.goto (-22), 3) := by decide +kernel
theorem dX7_sheet_80 : decode cX7_sheet 80 = .ok (.iload_n 3, 1) := by decide +kernel
theorem dX7_sheet_81 : decode cX7_sheet 81 = .ok (.ireturn, 1) := by decide +kernel
theorem dX7_lose_0 : decode cX7_lose 0 = .ok (.iload_n 1, 1) := by decide +kernel
theorem dX7_lose_1 : decode cX7_lose 1 = .ok (.invokestatic 70, 3) := by decide +kernel
theorem dX7_lose_4 : decode cX7_lose 4 = .ok (.ifCond .ne 6, 3) := by decide +kernel
theorem dX7_lose_7 : decode cX7_lose 7 = .ok (.bipush (-2), 2) := by decide +kernel
theorem dX7_lose_9 : decode cX7_lose 9 = .ok (.ireturn, 1) := by decide +kernel
theorem dX7_lose_10 : decode cX7_lose 10 = .ok (.aload_n 0, 1) := by decide +kernel
theorem dX7_lose_11 : decode cX7_lose 11 = .ok (.getfield 7, 3) := by decide +kernel
theorem dX7_lose_14 : decode cX7_lose 14 = .ok (.iload_n 1, 1) := by decide +kernel
theorem dX7_lose_15 : decode cX7_lose 15 = .ok (.iaload, 1) := by decide +kernel
theorem dX7_lose_16 : decode cX7_lose 16 = .ok (.ifCond .ge 9, 3) := by decide +kernel
theorem dX7_lose_19 : decode cX7_lose 19 = .ok (.aload_n 0, 1) := by decide +kernel
theorem dX7_lose_20 : decode cX7_lose 20 = .ok (.iconst 1, 1) := by decide +kernel
theorem dX7_lose_21 : decode cX7_lose 21 = .ok (.invokevirtual 76, 3) := by decide +kernel
theorem dX7_lose_24 : decode cX7_lose 24 = .ok (.ireturn, 1) := by decide +kernel
theorem dX7_lose_25 : decode cX7_lose 25 = .ok (.aload_n 0, 1) := by decide +kernel
theorem dX7_lose_26 : decode cX7_lose 26 = .ok (.getfield 7, 3) := by decide +kernel
theorem dX7_lose_29 : decode cX7_lose 29 = .ok (.iload_n 1, 1) := by decide +kernel
theorem dX7_lose_30 : decode cX7_lose 30 = .ok (.iconst (-1), 1) := by decide +kernel
theorem dX7_lose_31 : decode cX7_lose 31 = .ok (.iastore, 1) := by decide +kernel
theorem dX7_lose_32 : decode cX7_lose 32 = .ok (.aload_n 0, 1) := by decide +kernel
theorem dX7_lose_33 : decode cX7_lose 33 = .ok (.getfield 13, 3) := by decide +kernel
theorem dX7_lose_36 : decode cX7_lose 36 = .ok (.iload_n 1, 1) := by decide +kernel
theorem dX7_lose_37 : decode cX7_lose 37 = .ok (.iaload, 1) := by decide +kernel
theorem dX7_lose_38 : decode cX7_lose 38 = .ok (.ireturn, 1) := by decide +kernel
theorem dX7_lacks_0 : decode cX7_lacks 0 = .ok (.aload_n 0, 1) := by decide +kernel
theorem dX7_lacks_1 : decode cX7_lacks 1 = .ok (.getfield 7, 3) := by decide +kernel
theorem dX7_lacks_4 : decode cX7_lacks 4 = .ok (.iload_n 1, 1) := by decide +kernel
theorem dX7_lacks_5 : decode cX7_lacks 5 = .ok (.iaload, 1) := by decide +kernel
theorem dX7_lacks_6 : decode cX7_lacks 6 = .ok (.ifCond .ge 9, 3) := by decide +kernel
theorem dX7_lacks_9 : decode cX7_lacks 9 = .ok (.aload_n 0, 1) := by decide +kernel
theorem dX7_lacks_10 : decode cX7_lacks 10 = .ok (.iconst 1, 1) := by decide +kernel
theorem dX7_lacks_11 : decode cX7_lacks 11 = .ok (.invokevirtual 76, 3) := by decide +kernel
theorem dX7_lacks_14 : decode cX7_lacks 14 = .ok (.ireturn, 1) := by decide +kernel
theorem dX7_lacks_15 : decode cX7_lacks 15 = .ok (.aload_n 0, 1) := by decide +kernel
theorem dX7_lacks_16 : decode cX7_lacks 16 = .ok (.getfield 7, 3) := by decide +kernel
theorem dX7_lacks_19 : decode cX7_lacks 19 = .ok (.iload_n 1, 1) := by decide +kernel
theorem dX7_lacks_20 : decode cX7_lacks 20 = .ok (.iaload, 1) := by decide +kernel
theorem dX7_lacks_21 : decode cX7_lacks 21 = .ok (.iload_n 2, 1) := by decide +kernel
theorem dX7_lacks_22 : decode cX7_lacks 22 = .ok (.if_icmp .eq 9, 3) := by decide +kernel
theorem dX7_lacks_25 : decode cX7_lacks 25 = .ok (.aload_n 0, 1) := by decide +kernel
theorem dX7_lacks_26 : decode cX7_lacks 26 = .ok (.iconst 3, 1) := by decide +kernel
theorem dX7_lacks_27 : decode cX7_lacks 27 = .ok (.invokevirtual 76, 3) := by decide +kernel
theorem dX7_lacks_30 : decode cX7_lacks 30 = .ok (.ireturn, 1) := by decide +kernel
theorem dX7_lacks_31 : decode cX7_lacks 31 = .ok (.iload_n 3, 1) := by decide +kernel
theorem dX7_lacks_32 : decode cX7_lacks 32 = .ok (.i2l, 1) := by decide +kernel
theorem dX7_lacks_33 : decode cX7_lacks 33 = .ok (.lconst 0, 1) := by decide +kernel
theorem dX7_lacks_34 : decode cX7_lacks 34 = .ok (.aload_n 0, 1) := by decide +kernel
theorem dX7_lacks_35 : decode cX7_lacks 35 = .ok (.getfield 13, 3) := by decide +kernel
theorem dX7_lacks_38 : decode cX7_lacks 38 = .ok (.iload_n 1, 1) := by decide +kernel
theorem dX7_lacks_39 : decode cX7_lacks 39 = .ok (.iaload, 1) := by decide +kernel
theorem dX7_lacks_40 : decode cX7_lacks 40 = .ok (.iconst 1, 1) := by decide +kernel
theorem dX7_lacks_41 : decode cX7_lacks 41 = .ok (.isub, 1) := by decide +kernel
theorem dX7_lacks_42 : decode cX7_lacks 42 = .ok (.i2l, 1) := by decide +kernel
theorem dX7_lacks_43 : decode cX7_lacks 43 = .ok (.invokestatic 61, 3) := by decide +kernel
theorem dX7_lacks_46 : decode cX7_lacks 46 = .ok (.ifCond .eq 7, 3) := by decide +kernel
theorem dX7_lacks_49 : decode cX7_lacks 49 = .ok (.iconst 0, 1) := by decide +kernel
theorem dX7_lacks_50 : decode cX7_lacks 50 = .ok (.goto 8, 3) := by decide +kernel
theorem dX7_lacks_53 : decode cX7_lacks 53 = .ok (.aload_n 0, 1) := by decide +kernel
theorem dX7_lacks_54 : decode cX7_lacks 54 = .ok (.iconst 2, 1) := by decide +kernel
theorem dX7_lacks_55 : decode cX7_lacks 55 = .ok (.invokevirtual 76, 3) := by decide +kernel
theorem dX7_lacks_58 : decode cX7_lacks 58 = .ok (.ireturn, 1) := by decide +kernel
theorem dX7_cut_0 : decode cX7_cut 0 = .ok (.iload_n 0, 1) := by decide +kernel
theorem dX7_cut_1 : decode cX7_cut 1 = .ok (.ifCond .ne 8, 3) := by decide +kernel
theorem dX7_cut_4 : decode cX7_cut 4 = .ok (.iload_n 1, 1) := by decide +kernel
theorem dX7_cut_5 : decode cX7_cut 5 = .ok (.i2b, 1) := by decide +kernel
theorem dX7_cut_6 : decode cX7_cut 6 = .ok (.goto 14, 3) := by decide +kernel
theorem dX7_cut_9 : decode cX7_cut 9 = .ok (.iload_n 0, 1) := by decide +kernel
theorem dX7_cut_10 : decode cX7_cut 10 = .ok (.iconst 1, 1) := by decide +kernel
theorem dX7_cut_11 : decode cX7_cut 11 = .ok (.if_icmp .ne 8, 3) := by decide +kernel
theorem dX7_cut_14 : decode cX7_cut 14 = .ok (.iload_n 1, 1) := by decide +kernel
theorem dX7_cut_15 : decode cX7_cut 15 = .ok (.i2s, 1) := by decide +kernel
theorem dX7_cut_16 : decode cX7_cut 16 = .ok (.goto 4, 3) := by decide +kernel
theorem dX7_cut_19 : decode cX7_cut 19 = .ok (.iload_n 1, 1) := by decide +kernel
theorem dX7_cut_20 : decode cX7_cut 20 = .ok (.ireturn, 1) := by decide +kernel
theorem dX7_lay_0 : decode cX7_lay 0 = .ok (.iload_n 1, 1) := by decide +kernel
theorem dX7_lay_1 : decode cX7_lay 1 = .ok (.invokestatic 70, 3) := by decide +kernel
theorem dX7_lay_4 : decode cX7_lay 4 = .ok (.ifCond .eq 15, 3) := by decide +kernel
theorem dX7_lay_7 : decode cX7_lay 7 = .ok (.iload_n 2, 1) := by decide +kernel
theorem dX7_lay_8 : decode cX7_lay 8 = .ok (.i2l, 1) := by decide +kernel
theorem dX7_lay_9 : decode cX7_lay 9 = .ok (.lconst 0, 1) := by decide +kernel
theorem dX7_lay_10 : decode cX7_lay 10 = .ok (.ldc2_w 74, 3) := by decide +kernel
theorem dX7_lay_13 : decode cX7_lay 13 = .ok (.invokestatic 61, 3) := by decide +kernel
theorem dX7_lay_16 : decode cX7_lay 16 = .ok (.ifCond .ne 6, 3) := by decide +kernel
theorem dX7_lay_19 : decode cX7_lay 19 = .ok (.bipush (-2), 2) := by decide +kernel
theorem dX7_lay_21 : decode cX7_lay 21 = .ok (.ireturn, 1) := by decide +kernel
theorem dX7_lay_22 : decode cX7_lay 22 = .ok (.aload_n 0, 1) := by decide +kernel
theorem dX7_lay_23 : decode cX7_lay 23 = .ok (.iload_n 1, 1) := by decide +kernel
theorem dX7_lay_24 : decode cX7_lay 24 = .ok (.iload_n 2, 1) := by decide +kernel
theorem dX7_lay_25 : decode cX7_lay 25 = .ok (.iload_n 3, 1) := by decide +kernel
theorem dX7_lay_26 : decode cX7_lay 26 = .ok (.invokevirtual 80, 3) := by decide +kernel
theorem dX7_lay_29 : decode cX7_lay 29 = .ok (.istore 5, 2) := by decide +kernel
theorem dX7_lay_31 : decode cX7_lay 31 = .ok (.iload 5, 2) := by decide +kernel
theorem dX7_lay_33 : decode cX7_lay 33 = .ok (.ifCond .eq 6, 3) := by decide +kernel
theorem dX7_lay_36 : decode cX7_lay 36 = .ok (.iload 5, 2) := by decide +kernel
theorem dX7_lay_38 : decode cX7_lay 38 = .ok (.ireturn, 1) := by decide +kernel
theorem dX7_lay_39 : decode cX7_lay 39 = .ok (.aload_n 0, 1) := by decide +kernel
theorem dX7_lay_40 : decode cX7_lay 40 = .ok (.getfield 16, 3) := by decide +kernel
theorem dX7_lay_43 : decode cX7_lay 43 = .ok (.bipush 60, 2) := by decide +kernel
theorem dX7_lay_45 : decode cX7_lay 45 = .ok (.iload_n 1, 1) := by decide +kernel
theorem dX7_lay_46 : decode cX7_lay 46 = .ok (.imul, 1) := by decide +kernel
theorem dX7_lay_47 : decode cX7_lay 47 = .ok (.iload_n 3, 1) := by decide +kernel
theorem dX7_lay_48 : decode cX7_lay 48 = .ok (.iadd, 1) := by decide +kernel
theorem dX7_lay_49 : decode cX7_lay 49 = .ok (.iload_n 2, 1) := by decide +kernel
theorem dX7_lay_50 : decode cX7_lay 50 = .ok (.iload 4, 2) := by decide +kernel
theorem dX7_lay_52 : decode cX7_lay 52 = .ok (.invokestatic 84, 3) := by decide +kernel
theorem dX7_lay_55 : decode cX7_lay 55 = .ok (.iastore, 1) := by decide +kernel
theorem dX7_lay_56 : decode cX7_lay 56 = .ok (.iconst 1, 1) := by decide +kernel
theorem dX7_lay_57 : decode cX7_lay 57 = .ok (.ireturn, 1) := by decide +kernel
theorem dX7_get_0 : decode cX7_get 0 = .ok (.iload_n 1, 1) := by decide +kernel
theorem dX7_get_1 : decode cX7_get 1 = .ok (.invokestatic 70, 3) := by decide +kernel
theorem dX7_get_4 : decode cX7_get 4 = .ok (.ifCond .eq 25, 3) := by decide +kernel
theorem dX7_get_7 : decode cX7_get 7 = .ok (.iload_n 2, 1) := by decide +kernel
theorem dX7_get_8 : decode cX7_get 8 = .ok (.i2l, 1) := by decide +kernel
theorem dX7_get_9 : decode cX7_get 9 = .ok (.lconst 0, 1) := by decide +kernel
theorem dX7_get_10 : decode cX7_get 10 = .ok (.ldc2_w 74, 3) := by decide +kernel
theorem dX7_get_13 : decode cX7_get 13 = .ok (.invokestatic 61, 3) := by decide +kernel
theorem dX7_get_16 : decode cX7_get 16 = .ok (.ifCond .eq 13, 3) := by decide +kernel
theorem dX7_get_19 : decode cX7_get 19 = .ok (.aload_n 0, 1) := by decide +kernel
theorem dX7_get_20 : decode cX7_get 20 = .ok (.iload_n 1, 1) := by decide +kernel
theorem dX7_get_21 : decode cX7_get 21 = .ok (.iload_n 2, 1) := by decide +kernel
theorem dX7_get_22 : decode cX7_get 22 = .ok (.iload_n 3, 1) := by decide +kernel
theorem dX7_get_23 : decode cX7_get 23 = .ok (.invokevirtual 80, 3) := by decide +kernel
theorem dX7_get_26 : decode cX7_get 26 = .ok (.ifCond .eq 6, 3) := by decide +kernel
theorem dX7_get_29 : decode cX7_get 29 = .ok (.ldc 88, 2) := by decide +kernel
theorem dX7_get_31 : decode cX7_get 31 = .ok (.ireturn, 1) := by decide +kernel
theorem dX7_get_32 : decode cX7_get 32 = .ok (.aload_n 0, 1) := by decide +kernel
theorem dX7_get_33 : decode cX7_get 33 = .ok (.getfield 16, 3) := by decide +kernel
theorem dX7_get_36 : decode cX7_get 36 = .ok (.bipush 60, 2) := by decide +kernel
theorem dX7_get_38 : decode cX7_get 38 = .ok (.iload_n 1, 1) := by decide +kernel
theorem dX7_get_39 : decode cX7_get 39 = .ok (.imul, 1) := by decide +kernel
theorem dX7_get_40 : decode cX7_get 40 = .ok (.iload_n 3, 1) := by decide +kernel
theorem dX7_get_41 : decode cX7_get 41 = .ok (.iadd, 1) := by decide +kernel
theorem dX7_get_42 : decode cX7_get 42 = .ok (.iaload, 1) := by decide +kernel
theorem dX7_get_43 : decode cX7_get 43 = .ok (.ireturn, 1) := by decide +kernel
theorem dX7_copy_0 : decode cX7_copy 0 = .ok (.iload_n 1, 1) := by decide +kernel
theorem dX7_copy_1 : decode cX7_copy 1 = .ok (.invokestatic 70, 3) := by decide +kernel
theorem dX7_copy_4 : decode cX7_copy 4 = .ok (.ifCond .eq 10, 3) := by decide +kernel
theorem dX7_copy_7 : decode cX7_copy 7 = .ok (.iload_n 3, 1) := by decide +kernel
theorem dX7_copy_8 : decode cX7_copy 8 = .ok (.invokestatic 70, 3) := by decide +kernel
theorem dX7_copy_11 : decode cX7_copy 11 = .ok (.ifCond .ne 6, 3) := by decide +kernel
theorem dX7_copy_14 : decode cX7_copy 14 = .ok (.bipush (-2), 2) := by decide +kernel
theorem dX7_copy_16 : decode cX7_copy 16 = .ok (.ireturn, 1) := by decide +kernel
theorem dX7_copy_17 : decode cX7_copy 17 = .ok (.aload_n 0, 1) := by decide +kernel
theorem dX7_copy_18 : decode cX7_copy 18 = .ok (.getfield 7, 3) := by decide +kernel
theorem dX7_copy_21 : decode cX7_copy 21 = .ok (.iload_n 1, 1) := by decide +kernel
theorem dX7_copy_22 : decode cX7_copy 22 = .ok (.iaload, 1) := by decide +kernel
theorem dX7_copy_23 : decode cX7_copy 23 = .ok (.ifCond .lt 12, 3) := by decide +kernel
theorem dX7_copy_26 : decode cX7_copy 26 = .ok (.aload_n 0, 1) := by decide +kernel
theorem dX7_copy_27 : decode cX7_copy 27 = .ok (.getfield 7, 3) := by decide +kernel
theorem dX7_copy_30 : decode cX7_copy 30 = .ok (.iload_n 3, 1) := by decide +kernel
theorem dX7_copy_31 : decode cX7_copy 31 = .ok (.iaload, 1) := by decide +kernel
theorem dX7_copy_32 : decode cX7_copy 32 = .ok (.ifCond .ge 9, 3) := by decide +kernel
theorem dX7_copy_35 : decode cX7_copy 35 = .ok (.aload_n 0, 1) := by decide +kernel
theorem dX7_copy_36 : decode cX7_copy 36 = .ok (.iconst 1, 1) := by decide +kernel
theorem dX7_copy_37 : decode cX7_copy 37 = .ok (.invokevirtual 76, 3) := by decide +kernel
theorem dX7_copy_40 : decode cX7_copy 40 = .ok (.ireturn, 1) := by decide +kernel
theorem dX7_copy_41 : decode cX7_copy 41 = .ok (.aload_n 0, 1) := by decide +kernel
theorem dX7_copy_42 : decode cX7_copy 42 = .ok (.getfield 7, 3) := by decide +kernel
theorem dX7_copy_45 : decode cX7_copy 45 = .ok (.iload_n 1, 1) := by decide +kernel
theorem dX7_copy_46 : decode cX7_copy 46 = .ok (.iaload, 1) := by decide +kernel
theorem dX7_copy_47 : decode cX7_copy 47 = .ok (.aload_n 0, 1) := by decide +kernel
theorem dX7_copy_48 : decode cX7_copy 48 = .ok (.getfield 7, 3) := by decide +kernel
theorem dX7_copy_51 : decode cX7_copy 51 = .ok (.iload_n 3, 1) := by decide +kernel
theorem dX7_copy_52 : decode cX7_copy 52 = .ok (.iaload, 1) := by decide +kernel
theorem dX7_copy_53 : decode cX7_copy 53 = .ok (.if_icmp .eq 9, 3) := by decide +kernel
theorem dX7_copy_56 : decode cX7_copy 56 = .ok (.aload_n 0, 1) := by decide +kernel
theorem dX7_copy_57 : decode cX7_copy 57 = .ok (.iconst 4, 1) := by decide +kernel
theorem dX7_copy_58 : decode cX7_copy 58 = .ok (.invokevirtual 76, 3) := by decide +kernel
theorem dX7_copy_61 : decode cX7_copy 61 = .ok (.ireturn, 1) := by decide +kernel
theorem dX7_copy_62 : decode cX7_copy 62 = .ok (.iload_n 2, 1) := by decide +kernel
theorem dX7_copy_63 : decode cX7_copy 63 = .ok (.ifCond .lt 48, 3) := by decide +kernel
theorem dX7_copy_66 : decode cX7_copy 66 = .ok (.iload 4, 2) := by decide +kernel
theorem dX7_copy_68 : decode cX7_copy 68 = .ok (.ifCond .lt 43, 3) := by decide +kernel
theorem dX7_copy_71 : decode cX7_copy 71 = .ok (.iload 5, 2) := by decide +kernel
theorem dX7_copy_73 : decode cX7_copy 73 = .ok (.ifCond .lt 38, 3) := by decide +kernel
theorem dX7_copy_76 : decode cX7_copy 76 = .ok (.iload_n 2, 1) := by decide +kernel
theorem dX7_copy_77 : decode cX7_copy 77 = .ok (.i2l, 1) := by decide +kernel
theorem dX7_copy_78 : decode cX7_copy 78 = .ok (.iload 5, 2) := by decide +kernel
theorem dX7_copy_80 : decode cX7_copy 80 = .ok (.i2l, 1) := by decide +kernel
theorem dX7_copy_81 : decode cX7_copy 81 = .ok (.ladd, 1) := by decide +kernel
theorem dX7_copy_82 : decode cX7_copy 82 = .ok (.aload_n 0, 1) := by decide +kernel
theorem dX7_copy_83 : decode cX7_copy 83 = .ok (.getfield 13, 3) := by decide +kernel
theorem dX7_copy_86 : decode cX7_copy 86 = .ok (.iload_n 1, 1) := by decide +kernel
theorem dX7_copy_87 : decode cX7_copy 87 = .ok (.iaload, 1) := by decide +kernel
theorem dX7_copy_88 : decode cX7_copy 88 = .ok (.i2l, 1) := by decide +kernel
theorem dX7_copy_89 : decode cX7_copy 89 = .ok (.lcmp, 1) := by decide +kernel
theorem dX7_copy_90 : decode cX7_copy 90 = .ok (.ifCond .gt 21, 3) := by decide +kernel
theorem dX7_copy_93 : decode cX7_copy 93 = .ok (.iload 4, 2) := by decide +kernel
theorem dX7_copy_95 : decode cX7_copy 95 = .ok (.i2l, 1) := by decide +kernel
theorem dX7_copy_96 : decode cX7_copy 96 = .ok (.iload 5, 2) := by decide +kernel
theorem dX7_copy_98 : decode cX7_copy 98 = .ok (.i2l, 1) := by decide +kernel
theorem dX7_copy_99 : decode cX7_copy 99 = .ok (.ladd, 1) := by decide +kernel
theorem dX7_copy_100 : decode cX7_copy 100 = .ok (.aload_n 0, 1) := by decide +kernel
theorem dX7_copy_101 : decode cX7_copy 101 = .ok (.getfield 13, 3) := by decide +kernel
theorem dX7_copy_104 : decode cX7_copy 104 = .ok (.iload_n 3, 1) := by decide +kernel
theorem dX7_copy_105 : decode cX7_copy 105 = .ok (.iaload, 1) := by decide +kernel
theorem dX7_copy_106 : decode cX7_copy 106 = .ok (.i2l, 1) := by decide +kernel
theorem dX7_copy_107 : decode cX7_copy 107 = .ok (.lcmp, 1) := by decide +kernel
theorem dX7_copy_108 : decode cX7_copy 108 = .ok (.ifCond .le 9, 3) := by decide +kernel
theorem dX7_copy_111 : decode cX7_copy 111 = .ok (.aload_n 0, 1) := by decide +kernel
theorem dX7_copy_112 : decode cX7_copy 112 = .ok (.iconst 2, 1) := by decide +kernel
theorem dX7_copy_113 : decode cX7_copy 113 = .ok (.invokevirtual 76, 3) := by decide +kernel
theorem dX7_copy_116 : decode cX7_copy 116 = .ok (.ireturn, 1) := by decide +kernel
theorem dX7_copy_117 : decode cX7_copy 117 = .ok (.iconst 0, 1) := by decide +kernel
theorem dX7_copy_118 : decode cX7_copy 118 = .ok (.istore 6, 2) := by decide +kernel
theorem dX7_copy_120 : decode cX7_copy 120 = .ok (.iload 6, 2) := by decide +kernel
theorem dX7_copy_122 : decode cX7_copy 122 = .ok (.iload 5, 2) := by decide +kernel
theorem dX7_copy_124 : decode cX7_copy 124 = .ok (.if_icmp .ge 30, 3) := by decide +kernel
theorem dX7_copy_127 : decode cX7_copy 127 = .ok (.aload_n 0, 1) := by decide +kernel
theorem dX7_copy_128 : decode cX7_copy 128 = .ok (.getfield 19, 3) := by decide +kernel
theorem dX7_copy_131 : decode cX7_copy 131 = .ok (.iload 6, 2) := by decide +kernel
theorem dX7_copy_133 : decode cX7_copy 133 = .ok (.aload_n 0, 1) := by decide +kernel
theorem dX7_copy_134 : decode cX7_copy 134 = .ok (.getfield 16, 3) := by decide +kernel
theorem dX7_copy_137 : decode cX7_copy 137 = .ok (.bipush 60, 2) := by decide +kernel
theorem dX7_copy_139 : decode cX7_copy 139 = .ok (.iload_n 1, 1) := by decide +kernel
theorem dX7_copy_140 : decode cX7_copy 140 = .ok (.imul, 1) := by decide +kernel
theorem dX7_copy_141 : decode cX7_copy 141 = .ok (.iload_n 2, 1) := by decide +kernel
theorem dX7_copy_142 : decode cX7_copy 142 = .ok (.iadd, 1) := by decide +kernel
theorem dX7_copy_143 : decode cX7_copy 143 = .ok (.iload 6, 2) := by decide +kernel
theorem dX7_copy_145 : decode cX7_copy 145 = .ok (.iadd, 1) := by decide +kernel
theorem dX7_copy_146 : decode cX7_copy 146 = .ok (.iaload, 1) := by decide +kernel
theorem dX7_copy_147 : decode cX7_copy 147 = .ok (.iastore, 1) := by decide +kernel
theorem dX7_copy_148 : decode cX7_copy 148 = .ok (.iinc 6 1, 3) := by decide +kernel
theorem dX7_copy_151 : decode cX7_copy 151 = .ok (.goto (-31), 3) := by decide +kernel
theorem dX7_copy_154 : decode cX7_copy 154 = .ok (.iconst 0, 1) := by decide +kernel
theorem dX7_copy_155 : decode cX7_copy 155 = .ok (.istore 6, 2) := by decide +kernel
theorem dX7_copy_157 : decode cX7_copy 157 = .ok (.iload 6, 2) := by decide +kernel
theorem dX7_copy_159 : decode cX7_copy 159 = .ok (.iload 5, 2) := by decide +kernel
theorem dX7_copy_161 : decode cX7_copy 161 = .ok (.if_icmp .ge 31, 3) := by decide +kernel
theorem dX7_copy_164 : decode cX7_copy 164 = .ok (.aload_n 0, 1) := by decide +kernel
theorem dX7_copy_165 : decode cX7_copy 165 = .ok (.getfield 16, 3) := by decide +kernel
theorem dX7_copy_168 : decode cX7_copy 168 = .ok (.bipush 60, 2) := by decide +kernel
theorem dX7_copy_170 : decode cX7_copy 170 = .ok (.iload_n 3, 1) := by decide +kernel
theorem dX7_copy_171 : decode cX7_copy 171 = .ok (.imul, 1) := by decide +kernel
theorem dX7_copy_172 : decode cX7_copy 172 = .ok (.iload 4, 2) := by decide +kernel
theorem dX7_copy_174 : decode cX7_copy 174 = .ok (.iadd, 1) := by decide +kernel
theorem dX7_copy_175 : decode cX7_copy 175 = .ok (.iload 6, 2) := by decide +kernel
theorem dX7_copy_177 : decode cX7_copy 177 = .ok (.iadd, 1) := by decide +kernel
theorem dX7_copy_178 : decode cX7_copy 178 = .ok (.aload_n 0, 1) := by decide +kernel
theorem dX7_copy_179 : decode cX7_copy 179 = .ok (.getfield 19, 3) := by decide +kernel
theorem dX7_copy_182 : decode cX7_copy 182 = .ok (.iload 6, 2) := by decide +kernel
theorem dX7_copy_184 : decode cX7_copy 184 = .ok (.iaload, 1) := by decide +kernel
theorem dX7_copy_185 : decode cX7_copy 185 = .ok (.iastore, 1) := by decide +kernel
theorem dX7_copy_186 : decode cX7_copy 186 = .ok (.iinc 6 1, 3) := by decide +kernel
theorem dX7_copy_189 : decode cX7_copy 189 = .ok (.goto (-32), 3) := by decide +kernel
theorem dX7_copy_192 : decode cX7_copy 192 = .ok (.iconst 1, 1) := by decide +kernel
theorem dX7_copy_193 : decode cX7_copy 193 = .ok (.ireturn, 1) := by decide +kernel
theorem dX7_isText_0 : decode cX7_isText 0 = .ok (.iload_n 0, 1) := by decide +kernel
theorem dX7_isText_1 : decode cX7_isText 1 = .ok (.i2l, 1) := by decide +kernel
theorem dX7_isText_2 : decode cX7_isText 2 = .ok (.lconst 0, 1) := by decide +kernel
theorem dX7_isText_3 : decode cX7_isText 3 = .ok (.ldc2_w 74, 3) := by decide +kernel
theorem dX7_isText_6 : decode cX7_isText 6 = .ok (.invokestatic 61, 3) := by decide +kernel
theorem dX7_isText_9 : decode cX7_isText 9 = .ok (.ireturn, 1) := by decide +kernel
theorem dX7_type_0 : decode cX7_type 0 = .ok (.iload_n 1, 1) := by decide +kernel
theorem dX7_type_1 : decode cX7_type 1 = .ok (.invokestatic 89, 3) := by decide +kernel
theorem dX7_type_4 : decode cX7_type 4 = .ok (.ifCond .eq 15, 3) := by decide +kernel
theorem dX7_type_7 : decode cX7_type 7 = .ok (.iload_n 2, 1) := by decide +kernel
theorem dX7_type_8 : decode cX7_type 8 = .ok (.i2l, 1) := by decide +kernel
theorem dX7_type_9 : decode cX7_type 9 = .ok (.lconst 0, 1) := by decide +kernel
theorem dX7_type_10 : decode cX7_type 10 = .ok (.ldc2_w 92, 3) := by decide +kernel
theorem dX7_type_13 : decode cX7_type 13 = .ok (.invokestatic 61, 3) := by decide +kernel
theorem dX7_type_16 : decode cX7_type 16 = .ok (.ifCond .ne 6, 3) := by decide +kernel
theorem dX7_type_19 : decode cX7_type 19 = .ok (.bipush (-2), 2) := by decide +kernel
theorem dX7_type_21 : decode cX7_type 21 = .ok (.ireturn, 1) := by decide +kernel
theorem dX7_type_22 : decode cX7_type 22 = .ok (.aload_n 0, 1) := by decide +kernel
theorem dX7_type_23 : decode cX7_type 23 = .ok (.getfield 25, 3) := by decide +kernel
theorem dX7_type_26 : decode cX7_type 26 = .ok (.iload_n 1, 1) := by decide +kernel
theorem dX7_type_27 : decode cX7_type 27 = .ok (.iaload, 1) := by decide +kernel
theorem dX7_type_28 : decode cX7_type 28 = .ok (.iload_n 1, 1) := by decide +kernel
theorem dX7_type_29 : decode cX7_type 29 = .ok (.ifCond .ne 8, 3) := by decide +kernel
theorem dX7_type_32 : decode cX7_type 32 = .ok (.bipush 23, 2) := by decide +kernel
theorem dX7_type_34 : decode cX7_type 34 = .ok (.goto 15, 3) := by decide +kernel
theorem dX7_type_37 : decode cX7_type 37 = .ok (.iload_n 1, 1) := by decide +kernel
theorem dX7_type_38 : decode cX7_type 38 = .ok (.iconst 1, 1) := by decide +kernel
theorem dX7_type_39 : decode cX7_type 39 = .ok (.if_icmp .ne 8, 3) := by decide +kernel
theorem dX7_type_42 : decode cX7_type 42 = .ok (.bipush 39, 2) := by decide +kernel
theorem dX7_type_44 : decode cX7_type 44 = .ok (.goto 5, 3) := by decide +kernel
theorem dX7_type_47 : decode cX7_type 47 = .ok (.bipush 59, 2) := by decide +kernel
theorem dX7_type_49 : decode cX7_type 49 = .ok (.if_icmp .ne 6, 3) := by decide +kernel
theorem dX7_type_52 : decode cX7_type 52 = .ok (.bipush (-4), 2) := by decide +kernel
theorem dX7_type_54 : decode cX7_type 54 = .ok (.ireturn, 1) := by decide +kernel
theorem dX7_type_55 : decode cX7_type 55 = .ok (.aload_n 0, 1) := by decide +kernel
theorem dX7_type_56 : decode cX7_type 56 = .ok (.getfield 22, 3) := by decide +kernel
theorem dX7_type_59 : decode cX7_type 59 = .ok (.bipush 60, 2) := by decide +kernel
theorem dX7_type_61 : decode cX7_type 61 = .ok (.iload_n 1, 1) := by decide +kernel
theorem dX7_type_62 : decode cX7_type 62 = .ok (.imul, 1) := by decide +kernel
theorem dX7_type_63 : decode cX7_type 63 = .ok (.aload_n 0, 1) := by decide +kernel
theorem dX7_type_64 : decode cX7_type 64 = .ok (.getfield 25, 3) := by decide +kernel
theorem dX7_type_67 : decode cX7_type 67 = .ok (.iload_n 1, 1) := by decide +kernel
theorem dX7_type_68 : decode cX7_type 68 = .ok (.iaload, 1) := by decide +kernel
theorem dX7_type_69 : decode cX7_type 69 = .ok (.iadd, 1) := by decide +kernel
theorem dX7_type_70 : decode cX7_type 70 = .ok (.iload_n 2, 1) := by decide +kernel
theorem dX7_type_71 : decode cX7_type 71 = .ok (.iastore, 1) := by decide +kernel
theorem dX7_type_72 : decode cX7_type 72 = .ok (.aload_n 0, 1) := by decide +kernel
theorem dX7_type_73 : decode cX7_type 73 = .ok (.getfield 25, 3) := by decide +kernel
theorem dX7_type_76 : decode cX7_type 76 = .ok (.iload_n 1, 1) := by decide +kernel
theorem dX7_type_77 : decode cX7_type 77 = .ok (.dup2, 1) := by decide +kernel
theorem dX7_type_78 : decode cX7_type 78 = .ok (.iaload, 1) := by decide +kernel
theorem dX7_type_79 : decode cX7_type 79 = .ok (.iconst 1, 1) := by decide +kernel
theorem dX7_type_80 : decode cX7_type 80 = .ok (.iadd, 1) := by decide +kernel
theorem dX7_type_81 : decode cX7_type 81 = .ok (.iastore, 1) := by decide +kernel
theorem dX7_type_82 : decode cX7_type 82 = .ok (.aload_n 0, 1) := by decide +kernel
theorem dX7_type_83 : decode cX7_type 83 = .ok (.getfield 25, 3) := by decide +kernel
theorem dX7_type_86 : decode cX7_type 86 = .ok (.iload_n 1, 1) := by decide +kernel
theorem dX7_type_87 : decode cX7_type 87 = .ok (.iaload, 1) := by decide +kernel
theorem dX7_type_88 : decode cX7_type 88 = .ok (.ireturn, 1) := by decide +kernel
theorem dX7_wipe_0 : decode cX7_wipe 0 = .ok (.iload_n 1, 1) := by decide +kernel
theorem dX7_wipe_1 : decode cX7_wipe 1 = .ok (.invokestatic 89, 3) := by decide +kernel
theorem dX7_wipe_4 : decode cX7_wipe 4 = .ok (.ifCond .ne 6, 3) := by decide +kernel
theorem dX7_wipe_7 : decode cX7_wipe 7 = .ok (.bipush (-2), 2) := by decide +kernel
theorem dX7_wipe_9 : decode cX7_wipe 9 = .ok (.ireturn, 1) := by decide +kernel
theorem dX7_wipe_10 : decode cX7_wipe 10 = .ok (.aload_n 0, 1) := by decide +kernel
theorem dX7_wipe_11 : decode cX7_wipe 11 = .ok (.getfield 25, 3) := by decide +kernel
theorem dX7_wipe_14 : decode cX7_wipe 14 = .ok (.iload_n 1, 1) := by decide +kernel
theorem dX7_wipe_15 : decode cX7_wipe 15 = .ok (.iaload, 1) := by decide +kernel
theorem dX7_wipe_16 : decode cX7_wipe 16 = .ok (.istore_n 2, 1) := by decide +kernel
theorem dX7_wipe_17 : decode cX7_wipe 17 = .ok (.aload_n 0, 1) := by decide +kernel
theorem dX7_wipe_18 : decode cX7_wipe 18 = .ok (.getfield 25, 3) := by decide +kernel
theorem dX7_wipe_21 : decode cX7_wipe 21 = .ok (.iload_n 1, 1) := by decide +kernel
theorem dX7_wipe_22 : decode cX7_wipe 22 = .ok (.iconst 0, 1) := by decide +kernel
theorem dX7_wipe_23 : decode cX7_wipe 23 = .ok (.iastore, 1) := by decide +kernel
theorem dX7_wipe_24 : decode cX7_wipe 24 = .ok (.iload_n 2, 1) := by decide +kernel
theorem dX7_wipe_25 : decode cX7_wipe 25 = .ok (.ireturn, 1) := by decide +kernel
theorem dX7_undo_0 : decode cX7_undo 0 = .ok (.iload_n 1, 1) := by decide +kernel
theorem dX7_undo_1 : decode cX7_undo 1 = .ok (.invokestatic 89, 3) := by decide +kernel
theorem dX7_undo_4 : decode cX7_undo 4 = .ok (.ifCond .ne 6, 3) := by decide +kernel
theorem dX7_undo_7 : decode cX7_undo 7 = .ok (.bipush (-2), 2) := by decide +kernel
theorem dX7_undo_9 : decode cX7_undo 9 = .ok (.ireturn, 1) := by decide +kernel
theorem dX7_undo_10 : decode cX7_undo 10 = .ok (.aload_n 0, 1) := by decide +kernel
theorem dX7_undo_11 : decode cX7_undo 11 = .ok (.getfield 25, 3) := by decide +kernel
theorem dX7_undo_14 : decode cX7_undo 14 = .ok (.iload_n 1, 1) := by decide +kernel
theorem dX7_undo_15 : decode cX7_undo 15 = .ok (.iaload, 1) := by decide +kernel
theorem dX7_undo_16 : decode cX7_undo 16 = .ok (.ifCond .ne 6, 3) := by decide +kernel
theorem dX7_undo_19 : decode cX7_undo 19 = .ok (.bipush (-3), 2) := by decide +kernel
theorem dX7_undo_21 : decode cX7_undo 21 = .ok (.ireturn, 1) := by decide +kernel
theorem dX7_undo_22 : decode cX7_undo 22 = .ok (.aload_n 0, 1) := by decide +kernel
theorem dX7_undo_23 : decode cX7_undo 23 = .ok (.getfield 25, 3) := by decide +kernel
theorem dX7_undo_26 : decode cX7_undo 26 = .ok (.iload_n 1, 1) := by decide +kernel
theorem dX7_undo_27 : decode cX7_undo 27 = .ok (.dup2, 1) := by decide +kernel
theorem dX7_undo_28 : decode cX7_undo 28 = .ok (.iaload, 1) := by decide +kernel
theorem dX7_undo_29 : decode cX7_undo 29 = .ok (.iconst 1, 1) := by decide +kernel
theorem dX7_undo_30 : decode cX7_undo 30 = .ok (.isub, 1) := by decide +kernel
theorem dX7_undo_31 : decode cX7_undo 31 = .ok (.iastore, 1) := by decide +kernel
theorem dX7_undo_32 : decode cX7_undo 32 = .ok (.aload_n 0, 1) := by decide +kernel
theorem dX7_undo_33 : decode cX7_undo 33 = .ok (.getfield 25, 3) := by decide +kernel
theorem dX7_undo_36 : decode cX7_undo 36 = .ok (.iload_n 1, 1) := by decide +kernel
theorem dX7_undo_37 : decode cX7_undo 37 = .ok (.iaload, 1) := by decide +kernel
theorem dX7_undo_38 : decode cX7_undo 38 = .ok (.ireturn, 1) := by decide +kernel
theorem dX7_passes_0 : decode cX7_passes 0 = .ok (.aload_n 0, 1) := by decide +kernel
theorem dX7_passes_1 : decode cX7_passes 1 = .ok (.getfield 94, 3) := by decide +kernel
theorem dX7_passes_4 : decode cX7_passes 4 = .ok (.aload_n 0, 1) := by decide +kernel
theorem dX7_passes_5 : decode cX7_passes 5 = .ok (.getfield 25, 3) := by decide +kernel
theorem dX7_passes_8 : decode cX7_passes 8 = .ok (.iload_n 1, 1) := by decide +kernel
theorem dX7_passes_9 : decode cX7_passes 9 = .ok (.iaload, 1) := by decide +kernel
theorem dX7_passes_10 : decode cX7_passes 10 = .ok (.if_icmp .ge 20, 3) := by decide +kernel
theorem dX7_passes_13 : decode cX7_passes 13 = .ok (.aload_n 0, 1) := by decide +kernel
theorem dX7_passes_14 : decode cX7_passes 14 = .ok (.getfield 22, 3) := by decide +kernel
theorem dX7_passes_17 : decode cX7_passes 17 = .ok (.bipush 60, 2) := by decide +kernel
theorem dX7_passes_19 : decode cX7_passes 19 = .ok (.iload_n 1, 1) := by decide +kernel
theorem dX7_passes_20 : decode cX7_passes 20 = .ok (.imul, 1) := by decide +kernel
theorem dX7_passes_21 : decode cX7_passes 21 = .ok (.aload_n 0, 1) := by decide +kernel
theorem dX7_passes_22 : decode cX7_passes 22 = .ok (.getfield 94, 3) := by decide +kernel
theorem dX7_passes_25 : decode cX7_passes 25 = .ok (.iadd, 1) := by decide +kernel
theorem dX7_passes_26 : decode cX7_passes 26 = .ok (.iaload, 1) := by decide +kernel
theorem dX7_passes_27 : decode cX7_passes 27 = .ok (.goto 4, 3) := by decide +kernel
theorem dX7_passes_30 : decode cX7_passes 30 = .ok (.iconst (-1), 1) := by decide +kernel
theorem dX7_passes_31 : decode cX7_passes 31 = .ok (.istore 4, 2) := by decide +kernel
theorem dX7_passes_33 : decode cX7_passes 33 = .ok (.iload 4, 2) := by decide +kernel
theorem dX7_passes_35 : decode cX7_passes 35 = .ok (.i2l, 1) := by decide +kernel
theorem dX7_passes_36 : decode cX7_passes 36 = .ok (.iload_n 2, 1) := by decide +kernel
theorem dX7_passes_37 : decode cX7_passes 37 = .ok (.i2l, 1) := by decide +kernel
theorem dX7_passes_38 : decode cX7_passes 38 = .ok (.iload_n 3, 1) := by decide +kernel
theorem dX7_passes_39 : decode cX7_passes 39 = .ok (.i2l, 1) := by decide +kernel
theorem dX7_passes_40 : decode cX7_passes 40 = .ok (.invokestatic 61, 3) := by decide +kernel
theorem dX7_passes_43 : decode cX7_passes 43 = .ok (.ifCond .ne 6, 3) := by decide +kernel
theorem dX7_passes_46 : decode cX7_passes 46 = .ok (.bipush (-9), 2) := by decide +kernel
theorem dX7_passes_48 : decode cX7_passes 48 = .ok (.ireturn, 1) := by decide +kernel
theorem dX7_passes_49 : decode cX7_passes 49 = .ok (.aload_n 0, 1) := by decide +kernel
theorem dX7_passes_50 : decode cX7_passes 50 = .ok (.dup, 1) := by decide +kernel
theorem dX7_passes_51 : decode cX7_passes 51 = .ok (.getfield 94, 3) := by decide +kernel
theorem dX7_passes_54 : decode cX7_passes 54 = .ok (.iconst 1, 1) := by decide +kernel
theorem dX7_passes_55 : decode cX7_passes 55 = .ok (.iadd, 1) := by decide +kernel
theorem dX7_passes_56 : decode cX7_passes 56 = .ok (.putfield 94, 3) := by decide +kernel
theorem dX7_passes_59 : decode cX7_passes 59 = .ok (.iload 4, 2) := by decide +kernel
theorem dX7_passes_61 : decode cX7_passes 61 = .ok (.iload_n 2, 1) := by decide +kernel
theorem dX7_passes_62 : decode cX7_passes 62 = .ok (.isub, 1) := by decide +kernel
theorem dX7_passes_63 : decode cX7_passes 63 = .ok (.ireturn, 1) := by decide +kernel
theorem dX7_twoFigures_0 : decode cX7_twoFigures 0 = .ok (.aload_n 0, 1) := by decide +kernel
theorem dX7_twoFigures_1 : decode cX7_twoFigures 1 = .ok (.iload_n 1, 1) := by decide +kernel
theorem dX7_twoFigures_2 : decode cX7_twoFigures 2 = .ok (.bipush 48, 2) := by decide +kernel
theorem dX7_twoFigures_4 : decode cX7_twoFigures 4 = .ok (.bipush 57, 2) := by decide +kernel
theorem dX7_twoFigures_6 : decode cX7_twoFigures 6 = .ok (.invokevirtual 97, 3) := by decide +kernel
theorem dX7_twoFigures_9 : decode cX7_twoFigures 9 = .ok (.istore_n 3, 1) := by decide +kernel
theorem dX7_twoFigures_10 : decode cX7_twoFigures 10 = .ok (.iload_n 3, 1) := by decide +kernel
theorem dX7_twoFigures_11 : decode cX7_twoFigures 11 = .ok (.bipush (-9), 2) := by decide +kernel
theorem dX7_twoFigures_13 : decode cX7_twoFigures 13 = .ok (.if_icmp .ne 8, 3) := by decide +kernel
theorem dX7_twoFigures_16 : decode cX7_twoFigures 16 = .ok (.bipush (-9), 2) := by decide +kernel
theorem dX7_twoFigures_18 : decode cX7_twoFigures 18 = .ok (.goto 22, 3) := by decide +kernel
theorem dX7_twoFigures_21 : decode cX7_twoFigures 21 = .ok (.bipush 10, 2) := by decide +kernel
theorem dX7_twoFigures_23 : decode cX7_twoFigures 23 = .ok (.iload_n 3, 1) := by decide +kernel
theorem dX7_twoFigures_24 : decode cX7_twoFigures 24 = .ok (.imul, 1) := by decide +kernel
theorem dX7_twoFigures_25 : decode cX7_twoFigures 25 = .ok (.aload_n 0, 1) := by decide +kernel
theorem dX7_twoFigures_26 : decode cX7_twoFigures 26 = .ok (.iload_n 1, 1) := by decide +kernel
theorem dX7_twoFigures_27 : decode cX7_twoFigures 27 = .ok (.iload_n 3, 1) := by decide +kernel
theorem dX7_twoFigures_28 : decode cX7_twoFigures 28 = .ok (.ifCond .ne 7, 3) := by decide +kernel
theorem dX7_twoFigures_31 : decode cX7_twoFigures 31 = .ok (.iload_n 2, 1) := by decide +kernel
theorem dX7_twoFigures_32 : decode cX7_twoFigures 32 = .ok (.goto 4, 3) := by decide +kernel
theorem dX7_twoFigures_35 : decode cX7_twoFigures 35 = .ok (.iconst 0, 1) := by decide +kernel
theorem dX7_twoFigures_36 : decode cX7_twoFigures 36 = .ok (.invokevirtual 100, 3) := by decide +kernel
theorem dX7_twoFigures_39 : decode cX7_twoFigures 39 = .ok (.iadd, 1) := by decide +kernel
theorem dX7_twoFigures_40 : decode cX7_twoFigures 40 = .ok (.ireturn, 1) := by decide +kernel
theorem dX7_units_0 : decode cX7_units 0 = .ok (.aload_n 0, 1) := by decide +kernel
theorem dX7_units_1 : decode cX7_units 1 = .ok (.iload_n 1, 1) := by decide +kernel
theorem dX7_units_2 : decode cX7_units 2 = .ok (.bipush 48, 2) := by decide +kernel
theorem dX7_units_4 : decode cX7_units 4 = .ok (.iload_n 2, 1) := by decide +kernel
theorem dX7_units_5 : decode cX7_units 5 = .ok (.iadd, 1) := by decide +kernel
theorem dX7_units_6 : decode cX7_units 6 = .ok (.bipush 57, 2) := by decide +kernel
theorem dX7_units_8 : decode cX7_units 8 = .ok (.invokevirtual 97, 3) := by decide +kernel
theorem dX7_units_11 : decode cX7_units 11 = .ok (.istore_n 3, 1) := by decide +kernel
theorem dX7_units_12 : decode cX7_units 12 = .ok (.iload_n 3, 1) := by decide +kernel
theorem dX7_units_13 : decode cX7_units 13 = .ok (.bipush (-9), 2) := by decide +kernel
theorem dX7_units_15 : decode cX7_units 15 = .ok (.if_icmp .ne 9, 3) := by decide +kernel
theorem dX7_units_18 : decode cX7_units 18 = .ok (.sipush (-900), 3) := by decide +kernel
theorem dX7_units_21 : decode cX7_units 21 = .ok (.goto 6, 3) := by decide +kernel
theorem dX7_units_24 : decode cX7_units 24 = .ok (.iload_n 3, 1) := by decide +kernel
theorem dX7_units_25 : decode cX7_units 25 = .ok (.iload_n 2, 1) := by decide +kernel
theorem dX7_units_26 : decode cX7_units 26 = .ok (.iadd, 1) := by decide +kernel
theorem dX7_units_27 : decode cX7_units 27 = .ok (.ireturn, 1) := by decide +kernel
theorem dX7_readsShip_0 : decode cX7_readsShip 0 = .ok (.iconst 2, 1) := by decide +kernel
theorem dX7_readsShip_1 : decode cX7_readsShip 1 = .ok (.aload_n 0, 1) := by decide +kernel
theorem dX7_readsShip_2 : decode cX7_readsShip 2 = .ok (.getfield 28, 3) := by decide +kernel
theorem dX7_readsShip_5 : decode cX7_readsShip 5 = .ok (.iconst 0, 1) := by decide +kernel
theorem dX7_readsShip_6 : decode cX7_readsShip 6 = .ok (.iaload, 1) := by decide +kernel
theorem dX7_readsShip_7 : decode cX7_readsShip 7 = .ok (.imul, 1) := by decide +kernel
theorem dX7_readsShip_8 : decode cX7_readsShip 8 = .ok (.istore_n 1, 1) := by decide +kernel
theorem dX7_readsShip_9 : decode cX7_readsShip 9 = .ok (.aload_n 0, 1) := by decide +kernel
theorem dX7_readsShip_10 : decode cX7_readsShip 10 = .ok (.iconst 0, 1) := by decide +kernel
theorem dX7_readsShip_11 : decode cX7_readsShip 11 = .ok (.iconst 1, 1) := by decide +kernel
theorem dX7_readsShip_12 : decode cX7_readsShip 12 = .ok (.invokevirtual 103, 3) := by decide +kernel
theorem dX7_readsShip_15 : decode cX7_readsShip 15 = .ok (.istore_n 2, 1) := by decide +kernel
theorem dX7_readsShip_16 : decode cX7_readsShip 16 = .ok (.iload_n 2, 1) := by decide +kernel
theorem dX7_readsShip_17 : decode cX7_readsShip 17 = .ok (.ifCond .ge 5, 3) := by decide +kernel
theorem dX7_readsShip_20 : decode cX7_readsShip 20 = .ok (.iconst 0, 1) := by decide +kernel
theorem dX7_readsShip_21 : decode cX7_readsShip 21 = .ok (.ireturn, 1) := by decide +kernel
theorem dX7_readsShip_22 : decode cX7_readsShip 22 = .ok (.aload_n 0, 1) := by decide +kernel
theorem dX7_readsShip_23 : decode cX7_readsShip 23 = .ok (.iconst 0, 1) := by decide +kernel
theorem dX7_readsShip_24 : decode cX7_readsShip 24 = .ok (.bipush 48, 2) := by decide +kernel
theorem dX7_readsShip_26 : decode cX7_readsShip 26 = .ok (.bipush 57, 2) := by decide +kernel
theorem dX7_readsShip_28 : decode cX7_readsShip 28 = .ok (.invokevirtual 97, 3) := by decide +kernel
theorem dX7_readsShip_31 : decode cX7_readsShip 31 = .ok (.istore_n 3, 1) := by decide +kernel
theorem dX7_readsShip_32 : decode cX7_readsShip 32 = .ok (.iload_n 3, 1) := by decide +kernel
theorem dX7_readsShip_33 : decode cX7_readsShip 33 = .ok (.bipush (-9), 2) := by decide +kernel
theorem dX7_readsShip_35 : decode cX7_readsShip 35 = .ok (.if_icmp .ne 5, 3) := by decide +kernel
theorem dX7_readsShip_38 : decode cX7_readsShip 38 = .ok (.iconst 0, 1) := by decide +kernel
theorem dX7_readsShip_39 : decode cX7_readsShip 39 = .ok (.ireturn, 1) := by decide +kernel
theorem dX7_readsShip_40 : decode cX7_readsShip 40 = .ok (.aload_n 0, 1) := by decide +kernel
theorem dX7_readsShip_41 : decode cX7_readsShip 41 = .ok (.getfield 31, 3) := by decide +kernel
theorem dX7_readsShip_44 : decode cX7_readsShip 44 = .ok (.iload_n 1, 1) := by decide +kernel
theorem dX7_readsShip_45 : decode cX7_readsShip 45 = .ok (.iload_n 2, 1) := by decide +kernel
theorem dX7_readsShip_46 : decode cX7_readsShip 46 = .ok (.iastore, 1) := by decide +kernel
theorem dX7_readsShip_47 : decode cX7_readsShip 47 = .ok (.aload_n 0, 1) := by decide +kernel
theorem dX7_readsShip_48 : decode cX7_readsShip 48 = .ok (.getfield 31, 3) := by decide +kernel
theorem dX7_readsShip_51 : decode cX7_readsShip 51 = .ok (.iload_n 1, 1) := by decide +kernel
theorem dX7_readsShip_52 : decode cX7_readsShip 52 = .ok (.iconst 1, 1) := by decide +kernel
theorem dX7_readsShip_53 : decode cX7_readsShip 53 = .ok (.iadd, 1) := by decide +kernel
theorem dX7_readsShip_54 : decode cX7_readsShip 54 = .ok (.iload_n 3, 1) := by decide +kernel
theorem dX7_readsShip_55 : decode cX7_readsShip 55 = .ok (.iastore, 1) := by decide +kernel
theorem dX7_readsShip_56 : decode cX7_readsShip 56 = .ok (.iconst 1, 1) := by decide +kernel
theorem dX7_readsShip_57 : decode cX7_readsShip 57 = .ok (.ireturn, 1) := by decide +kernel
theorem dX7_readsName_0 : decode cX7_readsName 0 = .ok (.iconst 3, 1) := by decide +kernel
theorem dX7_readsName_1 : decode cX7_readsName 1 = .ok (.aload_n 0, 1) := by decide +kernel
theorem dX7_readsName_2 : decode cX7_readsName 2 = .ok (.getfield 28, 3) := by decide +kernel
theorem dX7_readsName_5 : decode cX7_readsName 5 = .ok (.iconst 1, 1) := by decide +kernel
theorem dX7_readsName_6 : decode cX7_readsName 6 = .ok (.iaload, 1) := by decide +kernel
theorem dX7_readsName_7 : decode cX7_readsName 7 = .ok (.imul, 1) := by decide +kernel
theorem dX7_readsName_8 : decode cX7_readsName 8 = .ok (.istore_n 1, 1) := by decide +kernel
theorem dX7_readsName_9 : decode cX7_readsName 9 = .ok (.aload_n 0, 1) := by decide +kernel
theorem dX7_readsName_10 : decode cX7_readsName 10 = .ok (.iconst 1, 1) := by decide +kernel
theorem dX7_readsName_11 : decode cX7_readsName 11 = .ok (.iconst 0, 1) := by decide +kernel
theorem dX7_readsName_12 : decode cX7_readsName 12 = .ok (.invokevirtual 103, 3) := by decide +kernel
theorem dX7_readsName_15 : decode cX7_readsName 15 = .ok (.istore_n 2, 1) := by decide +kernel
theorem dX7_readsName_16 : decode cX7_readsName 16 = .ok (.iload_n 2, 1) := by decide +kernel
theorem dX7_readsName_17 : decode cX7_readsName 17 = .ok (.ifCond .ge 5, 3) := by decide +kernel
theorem dX7_readsName_20 : decode cX7_readsName 20 = .ok (.iconst 0, 1) := by decide +kernel
theorem dX7_readsName_21 : decode cX7_readsName 21 = .ok (.ireturn, 1) := by decide +kernel
theorem dX7_readsName_22 : decode cX7_readsName 22 = .ok (.aload_n 0, 1) := by decide +kernel
theorem dX7_readsName_23 : decode cX7_readsName 23 = .ok (.iconst 1, 1) := by decide +kernel
theorem dX7_readsName_24 : decode cX7_readsName 24 = .ok (.bipush 108, 2) := by decide +kernel
theorem dX7_readsName_26 : decode cX7_readsName 26 = .ok (.bipush 108, 2) := by decide +kernel
theorem dX7_readsName_28 : decode cX7_readsName 28 = .ok (.invokevirtual 97, 3) := by decide +kernel
theorem dX7_readsName_31 : decode cX7_readsName 31 = .ok (.istore_n 3, 1) := by decide +kernel
theorem dX7_readsName_32 : decode cX7_readsName 32 = .ok (.iload_n 3, 1) := by decide +kernel
theorem dX7_readsName_33 : decode cX7_readsName 33 = .ok (.bipush (-9), 2) := by decide +kernel
theorem dX7_readsName_35 : decode cX7_readsName 35 = .ok (.if_icmp .ne 15, 3) := by decide +kernel
theorem dX7_readsName_38 : decode cX7_readsName 38 = .ok (.aload_n 0, 1) := by decide +kernel
theorem dX7_readsName_39 : decode cX7_readsName 39 = .ok (.iconst 1, 1) := by decide +kernel
theorem dX7_readsName_40 : decode cX7_readsName 40 = .ok (.bipush 100, 2) := by decide +kernel
theorem dX7_readsName_42 : decode cX7_readsName 42 = .ok (.bipush 100, 2) := by decide +kernel
theorem dX7_readsName_44 : decode cX7_readsName 44 = .ok (.invokevirtual 97, 3) := by decide +kernel
theorem dX7_readsName_47 : decode cX7_readsName 47 = .ok (.goto 5, 3) := by decide +kernel
theorem dX7_readsName_50 : decode cX7_readsName 50 = .ok (.bipush (-9), 2) := by decide +kernel
theorem dX7_readsName_52 : decode cX7_readsName 52 = .ok (.istore 4, 2) := by decide +kernel
theorem dX7_readsName_54 : decode cX7_readsName 54 = .ok (.iload_n 3, 1) := by decide +kernel
theorem dX7_readsName_55 : decode cX7_readsName 55 = .ok (.bipush (-9), 2) := by decide +kernel
theorem dX7_readsName_57 : decode cX7_readsName 57 = .ok (.if_icmp .ne 12, 3) := by decide +kernel
theorem dX7_readsName_60 : decode cX7_readsName 60 = .ok (.iload 4, 2) := by decide +kernel
theorem dX7_readsName_62 : decode cX7_readsName 62 = .ok (.bipush (-9), 2) := by decide +kernel
theorem dX7_readsName_64 : decode cX7_readsName 64 = .ok (.if_icmp .ne 5, 3) := by decide +kernel
theorem dX7_readsName_67 : decode cX7_readsName 67 = .ok (.iconst 0, 1) := by decide +kernel
theorem dX7_readsName_68 : decode cX7_readsName 68 = .ok (.ireturn, 1) := by decide +kernel
theorem dX7_readsName_69 : decode cX7_readsName 69 = .ok (.aload_n 0, 1) := by decide +kernel
theorem dX7_readsName_70 : decode cX7_readsName 70 = .ok (.iconst 1, 1) := by decide +kernel
theorem dX7_readsName_71 : decode cX7_readsName 71 = .ok (.bipush 46, 2) := by decide +kernel
theorem dX7_readsName_73 : decode cX7_readsName 73 = .ok (.bipush 46, 2) := by decide +kernel
theorem dX7_readsName_75 : decode cX7_readsName 75 = .ok (.invokevirtual 97, 3) := by decide +kernel
theorem dX7_readsName_78 : decode cX7_readsName 78 = .ok (.istore 5, 2) := by decide +kernel
theorem dX7_readsName_80 : decode cX7_readsName 80 = .ok (.iload 5, 2) := by decide +kernel
theorem dX7_readsName_82 : decode cX7_readsName 82 = .ok (.bipush (-9), 2) := by decide +kernel
theorem dX7_readsName_84 : decode cX7_readsName 84 = .ok (.if_icmp .ne 15, 3) := by decide +kernel
theorem dX7_readsName_87 : decode cX7_readsName 87 = .ok (.aload_n 0, 1) := by decide +kernel
theorem dX7_readsName_88 : decode cX7_readsName 88 = .ok (.iconst 1, 1) := by decide +kernel
theorem dX7_readsName_89 : decode cX7_readsName 89 = .ok (.bipush 97, 2) := by decide +kernel
theorem dX7_readsName_91 : decode cX7_readsName 91 = .ok (.bipush 104, 2) := by decide +kernel
theorem dX7_readsName_93 : decode cX7_readsName 93 = .ok (.invokevirtual 97, 3) := by decide +kernel
theorem dX7_readsName_96 : decode cX7_readsName 96 = .ok (.goto 4, 3) := by decide +kernel
theorem dX7_readsName_99 : decode cX7_readsName 99 = .ok (.iconst (-1), 1) := by decide +kernel
theorem dX7_readsName_100 : decode cX7_readsName 100 = .ok (.istore 6, 2) := by decide +kernel
theorem dX7_readsName_102 : decode cX7_readsName 102 = .ok (.iload 6, 2) := by decide +kernel
theorem dX7_readsName_104 : decode cX7_readsName 104 = .ok (.bipush (-9), 2) := by decide +kernel
theorem dX7_readsName_106 : decode cX7_readsName 106 = .ok (.if_icmp .ne 5, 3) := by decide +kernel
theorem dX7_readsName_109 : decode cX7_readsName 109 = .ok (.iconst 0, 1) := by decide +kernel
theorem dX7_readsName_110 : decode cX7_readsName 110 = .ok (.ireturn, 1) := by decide +kernel
theorem dX7_readsName_111 : decode cX7_readsName 111 = .ok (.aload_n 0, 1) := by decide +kernel
theorem dX7_readsName_112 : decode cX7_readsName 112 = .ok (.getfield 34, 3) := by decide +kernel
theorem dX7_readsName_115 : decode cX7_readsName 115 = .ok (.iload_n 1, 1) := by decide +kernel
theorem dX7_readsName_116 : decode cX7_readsName 116 = .ok (.iload_n 2, 1) := by decide +kernel
theorem dX7_readsName_117 : decode cX7_readsName 117 = .ok (.iastore, 1) := by decide +kernel
theorem dX7_readsName_118 : decode cX7_readsName 118 = .ok (.aload_n 0, 1) := by decide +kernel
theorem dX7_readsName_119 : decode cX7_readsName 119 = .ok (.getfield 34, 3) := by decide +kernel
theorem dX7_readsName_122 : decode cX7_readsName 122 = .ok (.iload_n 1, 1) := by decide +kernel
theorem dX7_readsName_123 : decode cX7_readsName 123 = .ok (.iconst 1, 1) := by decide +kernel
theorem dX7_readsName_124 : decode cX7_readsName 124 = .ok (.iadd, 1) := by decide +kernel
theorem dX7_readsName_125 : decode cX7_readsName 125 = .ok (.iload_n 3, 1) := by decide +kernel
theorem dX7_readsName_126 : decode cX7_readsName 126 = .ok (.bipush (-9), 2) := by decide +kernel
theorem dX7_readsName_128 : decode cX7_readsName 128 = .ok (.if_icmp .ne 7, 3) := by decide +kernel
theorem dX7_readsName_131 : decode cX7_readsName 131 = .ok (.iconst 1, 1) := by decide +kernel
theorem dX7_readsName_132 : decode cX7_readsName 132 = .ok (.goto 4, 3) := by decide +kernel
theorem dX7_readsName_135 : decode cX7_readsName 135 = .ok (.iconst 0, 1) := by decide +kernel
theorem dX7_readsName_136 : decode cX7_readsName 136 = .ok (.iastore, 1) := by decide +kernel
theorem dX7_readsName_137 : decode cX7_readsName 137 = .ok (.aload_n 0, 1) := by decide +kernel
theorem dX7_readsName_138 : decode cX7_readsName 138 = .ok (.getfield 34, 3) := by decide +kernel
theorem dX7_readsName_141 : decode cX7_readsName 141 = .ok (.iload_n 1, 1) := by decide +kernel
theorem dX7_readsName_142 : decode cX7_readsName 142 = .ok (.iconst 2, 1) := by decide +kernel
theorem dX7_readsName_143 : decode cX7_readsName 143 = .ok (.iadd, 1) := by decide +kernel
theorem dX7_readsName_144 : decode cX7_readsName 144 = .ok (.iload 6, 2) := by decide +kernel
theorem dX7_readsName_146 : decode cX7_readsName 146 = .ok (.iastore, 1) := by decide +kernel
theorem dX7_readsName_147 : decode cX7_readsName 147 = .ok (.iconst 1, 1) := by decide +kernel
theorem dX7_readsName_148 : decode cX7_readsName 148 = .ok (.ireturn, 1) := by decide +kernel
theorem dX7_readsLine_0 : decode cX7_readsLine 0 = .ok (.iconst 3, 1) := by decide +kernel
theorem dX7_readsLine_1 : decode cX7_readsLine 1 = .ok (.aload_n 0, 1) := by decide +kernel
theorem dX7_readsLine_2 : decode cX7_readsLine 2 = .ok (.getfield 28, 3) := by decide +kernel
theorem dX7_readsLine_5 : decode cX7_readsLine 5 = .ok (.iconst 2, 1) := by decide +kernel
theorem dX7_readsLine_6 : decode cX7_readsLine 6 = .ok (.iaload, 1) := by decide +kernel
theorem dX7_readsLine_7 : decode cX7_readsLine 7 = .ok (.imul, 1) := by decide +kernel
theorem dX7_readsLine_8 : decode cX7_readsLine 8 = .ok (.istore_n 1, 1) := by decide +kernel
theorem dX7_readsLine_9 : decode cX7_readsLine 9 = .ok (.aload_n 0, 1) := by decide +kernel
theorem dX7_readsLine_10 : decode cX7_readsLine 10 = .ok (.iconst 2, 1) := by decide +kernel
theorem dX7_readsLine_11 : decode cX7_readsLine 11 = .ok (.bipush 48, 2) := by decide +kernel
theorem dX7_readsLine_13 : decode cX7_readsLine 13 = .ok (.bipush 53, 2) := by decide +kernel
theorem dX7_readsLine_15 : decode cX7_readsLine 15 = .ok (.invokevirtual 97, 3) := by decide +kernel
theorem dX7_readsLine_18 : decode cX7_readsLine 18 = .ok (.istore_n 2, 1) := by decide +kernel
theorem dX7_readsLine_19 : decode cX7_readsLine 19 = .ok (.iload_n 2, 1) := by decide +kernel
theorem dX7_readsLine_20 : decode cX7_readsLine 20 = .ok (.bipush (-9), 2) := by decide +kernel
theorem dX7_readsLine_22 : decode cX7_readsLine 22 = .ok (.if_icmp .ne 5, 3) := by decide +kernel
theorem dX7_readsLine_25 : decode cX7_readsLine 25 = .ok (.iconst 0, 1) := by decide +kernel
theorem dX7_readsLine_26 : decode cX7_readsLine 26 = .ok (.ireturn, 1) := by decide +kernel
theorem dX7_readsLine_27 : decode cX7_readsLine 27 = .ok (.aload_n 0, 1) := by decide +kernel
theorem dX7_readsLine_28 : decode cX7_readsLine 28 = .ok (.iconst 2, 1) := by decide +kernel
theorem dX7_readsLine_29 : decode cX7_readsLine 29 = .ok (.bipush 97, 2) := by decide +kernel
theorem dX7_readsLine_31 : decode cX7_readsLine 31 = .ok (.bipush 104, 2) := by decide +kernel
theorem dX7_readsLine_33 : decode cX7_readsLine 33 = .ok (.invokevirtual 97, 3) := by decide +kernel
theorem dX7_readsLine_36 : decode cX7_readsLine 36 = .ok (.istore_n 3, 1) := by decide +kernel
theorem dX7_readsLine_37 : decode cX7_readsLine 37 = .ok (.iload_n 3, 1) := by decide +kernel
theorem dX7_readsLine_38 : decode cX7_readsLine 38 = .ok (.bipush (-9), 2) := by decide +kernel
theorem dX7_readsLine_40 : decode cX7_readsLine 40 = .ok (.if_icmp .ne 5, 3) := by decide +kernel
theorem dX7_readsLine_43 : decode cX7_readsLine 43 = .ok (.iconst 0, 1) := by decide +kernel
theorem dX7_readsLine_44 : decode cX7_readsLine 44 = .ok (.ireturn, 1) := by decide +kernel
theorem dX7_readsLine_45 : decode cX7_readsLine 45 = .ok (.aload_n 0, 1) := by decide +kernel
theorem dX7_readsLine_46 : decode cX7_readsLine 46 = .ok (.iconst 2, 1) := by decide +kernel
theorem dX7_readsLine_47 : decode cX7_readsLine 47 = .ok (.iconst 1, 1) := by decide +kernel
theorem dX7_readsLine_48 : decode cX7_readsLine 48 = .ok (.invokevirtual 103, 3) := by decide +kernel
theorem dX7_readsLine_51 : decode cX7_readsLine 51 = .ok (.istore 4, 2) := by decide +kernel
theorem dX7_readsLine_53 : decode cX7_readsLine 53 = .ok (.iload 4, 2) := by decide +kernel
theorem dX7_readsLine_55 : decode cX7_readsLine 55 = .ok (.ifCond .ge 5, 3) := by decide +kernel
theorem dX7_readsLine_58 : decode cX7_readsLine 58 = .ok (.iconst 0, 1) := by decide +kernel
theorem dX7_readsLine_59 : decode cX7_readsLine 59 = .ok (.ireturn, 1) := by decide +kernel
theorem dX7_readsLine_60 : decode cX7_readsLine 60 = .ok (.aload_n 0, 1) := by decide +kernel
theorem dX7_readsLine_61 : decode cX7_readsLine 61 = .ok (.getfield 37, 3) := by decide +kernel
theorem dX7_readsLine_64 : decode cX7_readsLine 64 = .ok (.iload_n 1, 1) := by decide +kernel
theorem dX7_readsLine_65 : decode cX7_readsLine 65 = .ok (.iload_n 2, 1) := by decide +kernel
theorem dX7_readsLine_66 : decode cX7_readsLine 66 = .ok (.iastore, 1) := by decide +kernel
theorem dX7_readsLine_67 : decode cX7_readsLine 67 = .ok (.aload_n 0, 1) := by decide +kernel
theorem dX7_readsLine_68 : decode cX7_readsLine 68 = .ok (.getfield 37, 3) := by decide +kernel
theorem dX7_readsLine_71 : decode cX7_readsLine 71 = .ok (.iload_n 1, 1) := by decide +kernel
theorem dX7_readsLine_72 : decode cX7_readsLine 72 = .ok (.iconst 1, 1) := by decide +kernel
theorem dX7_readsLine_73 : decode cX7_readsLine 73 = .ok (.iadd, 1) := by decide +kernel
theorem dX7_readsLine_74 : decode cX7_readsLine 74 = .ok (.iload_n 3, 1) := by decide +kernel
theorem dX7_readsLine_75 : decode cX7_readsLine 75 = .ok (.iastore, 1) := by decide +kernel
theorem dX7_readsLine_76 : decode cX7_readsLine 76 = .ok (.aload_n 0, 1) := by decide +kernel
theorem dX7_readsLine_77 : decode cX7_readsLine 77 = .ok (.getfield 37, 3) := by decide +kernel
theorem dX7_readsLine_80 : decode cX7_readsLine 80 = .ok (.iload_n 1, 1) := by decide +kernel
theorem dX7_readsLine_81 : decode cX7_readsLine 81 = .ok (.iconst 2, 1) := by decide +kernel
theorem dX7_readsLine_82 : decode cX7_readsLine 82 = .ok (.iadd, 1) := by decide +kernel
theorem dX7_readsLine_83 : decode cX7_readsLine 83 = .ok (.iload 4, 2) := by decide +kernel
theorem dX7_readsLine_85 : decode cX7_readsLine 85 = .ok (.iastore, 1) := by decide +kernel
theorem dX7_readsLine_86 : decode cX7_readsLine 86 = .ok (.iconst 1, 1) := by decide +kernel
theorem dX7_readsLine_87 : decode cX7_readsLine 87 = .ok (.ireturn, 1) := by decide +kernel
theorem dX7_readsThing_0 : decode cX7_readsThing 0 = .ok (.aload_n 0, 1) := by decide +kernel
theorem dX7_readsThing_1 : decode cX7_readsThing 1 = .ok (.getfield 28, 3) := by decide +kernel
theorem dX7_readsThing_4 : decode cX7_readsThing 4 = .ok (.iload_n 1, 1) := by decide +kernel
theorem dX7_readsThing_5 : decode cX7_readsThing 5 = .ok (.iaload, 1) := by decide +kernel
theorem dX7_readsThing_6 : decode cX7_readsThing 6 = .ok (.iload_n 1, 1) := by decide +kernel
theorem dX7_readsThing_7 : decode cX7_readsThing 7 = .ok (.ifCond .ne 8, 3) := by decide +kernel
theorem dX7_readsThing_10 : decode cX7_readsThing 10 = .ok (.bipush 6, 2) := by decide +kernel
theorem dX7_readsThing_12 : decode cX7_readsThing 12 = .ok (.goto 15, 3) := by decide +kernel
theorem dX7_readsThing_15 : decode cX7_readsThing 15 = .ok (.iload_n 1, 1) := by decide +kernel
theorem dX7_readsThing_16 : decode cX7_readsThing 16 = .ok (.iconst 1, 1) := by decide +kernel
theorem dX7_readsThing_17 : decode cX7_readsThing 17 = .ok (.if_icmp .ne 8, 3) := by decide +kernel
theorem dX7_readsThing_20 : decode cX7_readsThing 20 = .ok (.bipush 8, 2) := by decide +kernel
theorem dX7_readsThing_22 : decode cX7_readsThing 22 = .ok (.goto 5, 3) := by decide +kernel
theorem dX7_readsThing_25 : decode cX7_readsThing 25 = .ok (.bipush 12, 2) := by decide +kernel
theorem dX7_readsThing_27 : decode cX7_readsThing 27 = .ok (.if_icmp .ne 5, 3) := by decide +kernel
theorem dX7_readsThing_30 : decode cX7_readsThing 30 = .ok (.iconst 0, 1) := by decide +kernel
theorem dX7_readsThing_31 : decode cX7_readsThing 31 = .ok (.ireturn, 1) := by decide +kernel
theorem dX7_readsThing_32 : decode cX7_readsThing 32 = .ok (.iload_n 1, 1) := by decide +kernel
theorem dX7_readsThing_33 : decode cX7_readsThing 33 = .ok (.ifCond .ne 10, 3) := by decide +kernel
theorem dX7_readsThing_36 : decode cX7_readsThing 36 = .ok (.aload_n 0, 1) := by decide +kernel
theorem dX7_readsThing_37 : decode cX7_readsThing 37 = .ok (.invokevirtual 106, 3) := by decide +kernel
theorem dX7_readsThing_40 : decode cX7_readsThing 40 = .ok (.goto 19, 3) := by decide +kernel
theorem dX7_readsThing_43 : decode cX7_readsThing 43 = .ok (.iload_n 1, 1) := by decide +kernel
theorem dX7_readsThing_44 : decode cX7_readsThing 44 = .ok (.iconst 1, 1) := by decide +kernel
theorem dX7_readsThing_45 : decode cX7_readsThing 45 = .ok (.if_icmp .ne 10, 3) := by decide +kernel
theorem dX7_readsThing_48 : decode cX7_readsThing 48 = .ok (.aload_n 0, 1) := by decide +kernel
theorem dX7_readsThing_49 : decode cX7_readsThing 49 = .ok (.invokevirtual 110, 3) := by decide +kernel
theorem dX7_readsThing_52 : decode cX7_readsThing 52 = .ok (.goto 7, 3) := by decide +kernel
theorem dX7_readsThing_55 : decode cX7_readsThing 55 = .ok (.aload_n 0, 1) := by decide +kernel
theorem dX7_readsThing_56 : decode cX7_readsThing 56 = .ok (.invokevirtual 113, 3) := by decide +kernel
theorem dX7_readsThing_59 : decode cX7_readsThing 59 = .ok (.istore_n 2, 1) := by decide +kernel
theorem dX7_readsThing_60 : decode cX7_readsThing 60 = .ok (.aload_n 0, 1) := by decide +kernel
theorem dX7_readsThing_61 : decode cX7_readsThing 61 = .ok (.getfield 28, 3) := by decide +kernel
theorem dX7_readsThing_64 : decode cX7_readsThing 64 = .ok (.iload_n 1, 1) := by decide +kernel
theorem dX7_readsThing_65 : decode cX7_readsThing 65 = .ok (.dup2, 1) := by decide +kernel
theorem dX7_readsThing_66 : decode cX7_readsThing 66 = .ok (.iaload, 1) := by decide +kernel
theorem dX7_readsThing_67 : decode cX7_readsThing 67 = .ok (.iload_n 2, 1) := by decide +kernel
theorem dX7_readsThing_68 : decode cX7_readsThing 68 = .ok (.ifCond .eq 7, 3) := by decide +kernel
theorem dX7_readsThing_71 : decode cX7_readsThing 71 = .ok (.iconst 1, 1) := by decide +kernel
theorem dX7_readsThing_72 : decode cX7_readsThing 72 = .ok (.goto 4, 3) := by decide +kernel
theorem dX7_readsThing_75 : decode cX7_readsThing 75 = .ok (.iconst 0, 1) := by decide +kernel
theorem dX7_readsThing_76 : decode cX7_readsThing 76 = .ok (.iadd, 1) := by decide +kernel
theorem dX7_readsThing_77 : decode cX7_readsThing 77 = .ok (.iastore, 1) := by decide +kernel
theorem dX7_readsThing_78 : decode cX7_readsThing 78 = .ok (.iload_n 2, 1) := by decide +kernel
theorem dX7_readsThing_79 : decode cX7_readsThing 79 = .ok (.ireturn, 1) := by decide +kernel
theorem dX7_readsText_0 : decode cX7_readsText 0 = .ok (.aload_n 0, 1) := by decide +kernel
theorem dX7_readsText_1 : decode cX7_readsText 1 = .ok (.iconst 0, 1) := by decide +kernel
theorem dX7_readsText_2 : decode cX7_readsText 2 = .ok (.putfield 94, 3) := by decide +kernel
theorem dX7_readsText_5 : decode cX7_readsText 5 = .ok (.aload_n 0, 1) := by decide +kernel
theorem dX7_readsText_6 : decode cX7_readsText 6 = .ok (.getfield 28, 3) := by decide +kernel
theorem dX7_readsText_9 : decode cX7_readsText 9 = .ok (.iload_n 1, 1) := by decide +kernel
theorem dX7_readsText_10 : decode cX7_readsText 10 = .ok (.iconst 0, 1) := by decide +kernel
theorem dX7_readsText_11 : decode cX7_readsText 11 = .ok (.iastore, 1) := by decide +kernel
theorem dX7_readsText_12 : decode cX7_readsText 12 = .ok (.aload_n 0, 1) := by decide +kernel
theorem dX7_readsText_13 : decode cX7_readsText 13 = .ok (.getfield 25, 3) := by decide +kernel
theorem dX7_readsText_16 : decode cX7_readsText 16 = .ok (.iload_n 1, 1) := by decide +kernel
theorem dX7_readsText_17 : decode cX7_readsText 17 = .ok (.iaload, 1) := by decide +kernel
theorem dX7_readsText_18 : decode cX7_readsText 18 = .ok (.ifCond .le 7, 3) := by decide +kernel
theorem dX7_readsText_21 : decode cX7_readsText 21 = .ok (.iconst 1, 1) := by decide +kernel
theorem dX7_readsText_22 : decode cX7_readsText 22 = .ok (.goto 4, 3) := by decide +kernel
theorem dX7_readsText_25 : decode cX7_readsText 25 = .ok (.iconst 0, 1) := by decide +kernel
theorem dX7_readsText_26 : decode cX7_readsText 26 = .ok (.istore_n 2, 1) := by decide +kernel
theorem dX7_readsText_27 : decode cX7_readsText 27 = .ok (.iload_n 2, 1) := by decide +kernel
theorem dX7_readsText_28 : decode cX7_readsText 28 = .ok (.ifCond .eq 92, 3) := by decide +kernel
theorem dX7_readsText_31 : decode cX7_readsText 31 = .ok (.aload_n 0, 1) := by decide +kernel
theorem dX7_readsText_32 : decode cX7_readsText 32 = .ok (.iload_n 1, 1) := by decide +kernel
theorem dX7_readsText_33 : decode cX7_readsText 33 = .ok (.invokevirtual 116, 3) := by decide +kernel
theorem dX7_readsText_36 : decode cX7_readsText 36 = .ok (.istore_n 3, 1) := by decide +kernel
theorem dX7_readsText_37 : decode cX7_readsText 37 = .ok (.iload_n 3, 1) := by decide +kernel
theorem dX7_readsText_38 : decode cX7_readsText 38 = .ok (.ifCond .eq 20, 3) := by decide +kernel
theorem dX7_readsText_41 : decode cX7_readsText 41 = .ok (.aload_n 0, 1) := by decide +kernel
theorem dX7_readsText_42 : decode cX7_readsText 42 = .ok (.getfield 94, 3) := by decide +kernel
theorem dX7_readsText_45 : decode cX7_readsText 45 = .ok (.aload_n 0, 1) := by decide +kernel
theorem dX7_readsText_46 : decode cX7_readsText 46 = .ok (.getfield 25, 3) := by decide +kernel
theorem dX7_readsText_49 : decode cX7_readsText 49 = .ok (.iload_n 1, 1) := by decide +kernel
theorem dX7_readsText_50 : decode cX7_readsText 50 = .ok (.iaload, 1) := by decide +kernel
theorem dX7_readsText_51 : decode cX7_readsText 51 = .ok (.if_icmp .ge 7, 3) := by decide +kernel
theorem dX7_readsText_54 : decode cX7_readsText 54 = .ok (.iconst 1, 1) := by decide +kernel
theorem dX7_readsText_55 : decode cX7_readsText 55 = .ok (.goto 4, 3) := by decide +kernel
theorem dX7_readsText_58 : decode cX7_readsText 58 = .ok (.iconst 0, 1) := by decide +kernel
theorem dX7_readsText_59 : decode cX7_readsText 59 = .ok (.istore_n 2, 1) := by decide +kernel
theorem dX7_readsText_60 : decode cX7_readsText 60 = .ok (.iload_n 3, 1) := by decide +kernel
theorem dX7_readsText_61 : decode cX7_readsText 61 = .ok (.ifCond .eq 26, 3) := by decide +kernel
theorem dX7_readsText_64 : decode cX7_readsText 64 = .ok (.iload_n 2, 1) := by decide +kernel
theorem dX7_readsText_65 : decode cX7_readsText 65 = .ok (.ifCond .eq 34, 3) := by decide +kernel
theorem dX7_readsText_68 : decode cX7_readsText 68 = .ok (.aload_n 0, 1) := by decide +kernel
theorem dX7_readsText_69 : decode cX7_readsText 69 = .ok (.getfield 22, 3) := by decide +kernel
theorem dX7_readsText_72 : decode cX7_readsText 72 = .ok (.bipush 60, 2) := by decide +kernel
theorem dX7_readsText_74 : decode cX7_readsText 74 = .ok (.iload_n 1, 1) := by decide +kernel
theorem dX7_readsText_75 : decode cX7_readsText 75 = .ok (.imul, 1) := by decide +kernel
theorem dX7_readsText_76 : decode cX7_readsText 76 = .ok (.aload_n 0, 1) := by decide +kernel
theorem dX7_readsText_77 : decode cX7_readsText 77 = .ok (.getfield 94, 3) := by decide +kernel
theorem dX7_readsText_80 : decode cX7_readsText 80 = .ok (.iadd, 1) := by decide +kernel
theorem dX7_readsText_81 : decode cX7_readsText 81 = .ok (.iaload, 1) := by decide +kernel
theorem dX7_readsText_82 : decode cX7_readsText 82 = .ok (.bipush 59, 2) := by decide +kernel
theorem dX7_readsText_84 : decode cX7_readsText 84 = .ok (.if_icmp .eq 15, 3) := by decide +kernel
theorem dX7_readsText_87 : decode cX7_readsText 87 = .ok (.aload_n 0, 1) := by decide +kernel
theorem dX7_readsText_88 : decode cX7_readsText 88 = .ok (.getfield 28, 3) := by decide +kernel
theorem dX7_readsText_91 : decode cX7_readsText 91 = .ok (.iload_n 1, 1) := by decide +kernel
theorem dX7_readsText_92 : decode cX7_readsText 92 = .ok (.iconst 0, 1) := by decide +kernel
theorem dX7_readsText_93 : decode cX7_readsText 93 = .ok (.iastore, 1) := by decide +kernel
theorem dX7_readsText_94 : decode cX7_readsText 94 = .ok (.aload_n 0, 1) := by decide +kernel
theorem dX7_readsText_95 : decode cX7_readsText 95 = .ok (.getfield 94, 3) := by decide +kernel
theorem dX7_readsText_98 : decode cX7_readsText 98 = .ok (.ireturn, 1) := by decide +kernel
theorem dX7_readsText_99 : decode cX7_readsText 99 = .ok (.aload_n 0, 1) := by decide +kernel
theorem dX7_readsText_100 : decode cX7_readsText 100 = .ok (.dup, 1) := by decide +kernel
theorem dX7_readsText_101 : decode cX7_readsText 101 = .ok (.getfield 94, 3) := by decide +kernel
theorem dX7_readsText_104 : decode cX7_readsText 104 = .ok (.iload_n 2, 1) := by decide +kernel
theorem dX7_readsText_105 : decode cX7_readsText 105 = .ok (.ifCond .eq 7, 3) := by decide +kernel
theorem dX7_readsText_108 : decode cX7_readsText 108 = .ok (.iconst 1, 1) := by decide +kernel
theorem dX7_readsText_109 : decode cX7_readsText 109 = .ok (.goto 4, 3) := by decide +kernel
theorem dX7_readsText_112 : decode cX7_readsText 112 = .ok (.iconst 0, 1) := by decide +kernel
theorem dX7_readsText_113 : decode cX7_readsText 113 = .ok (.iadd, 1) := by decide +kernel
theorem dX7_readsText_114 : decode cX7_readsText 114 = .ok (.putfield 94, 3) := by decide +kernel
theorem dX7_readsText_117 : decode cX7_readsText 117 = .ok (.goto (-90), 3) := by decide +kernel
theorem dX7_readsText_120 : decode cX7_readsText 120 = .ok (.iconst (-1), 1) := by decide +kernel
theorem dX7_readsText_121 : decode cX7_readsText 121 = .ok (.ireturn, 1) := by decide +kernel
theorem dX7_reads_0 : decode cX7_reads 0 = .ok (.iconst 0, 1) := by decide +kernel
theorem dX7_reads_1 : decode cX7_reads 1 = .ok (.istore_n 1, 1) := by decide +kernel
theorem dX7_reads_2 : decode cX7_reads 2 = .ok (.iload_n 1, 1) := by decide +kernel
theorem dX7_reads_3 : decode cX7_reads 3 = .ok (.iconst 3, 1) := by decide +kernel
theorem dX7_reads_4 : decode cX7_reads 4 = .ok (.if_icmp .ge 15, 3) := by decide +kernel
theorem dX7_reads_7 : decode cX7_reads 7 = .ok (.aload_n 0, 1) := by decide +kernel
theorem dX7_reads_8 : decode cX7_reads 8 = .ok (.iload_n 1, 1) := by decide +kernel
theorem dX7_reads_9 : decode cX7_reads 9 = .ok (.invokevirtual 119, 3) := by decide +kernel
theorem dX7_reads_12 : decode cX7_reads 12 = .ok (.pop, 1) := by decide +kernel
theorem dX7_reads_13 : decode cX7_reads 13 = .ok (.iinc 1 1, 3) := by decide +kernel
theorem dX7_reads_16 : decode cX7_reads 16 = .ok (.goto (-14), 3) := by decide +kernel
theorem dX7_reads_19 : decode cX7_reads 19 = .ok (.return_, 1) := by decide +kernel
theorem dX7_fault_0 : decode cX7_fault 0 = .ok (.iload_n 1, 1) := by decide +kernel
theorem dX7_fault_1 : decode cX7_fault 1 = .ok (.invokestatic 89, 3) := by decide +kernel
theorem dX7_fault_4 : decode cX7_fault 4 = .ok (.ifCond .eq 11, 3) := by decide +kernel
theorem dX7_fault_7 : decode cX7_fault 7 = .ok (.aload_n 0, 1) := by decide +kernel
theorem dX7_fault_8 : decode cX7_fault 8 = .ok (.iload_n 1, 1) := by decide +kernel
theorem dX7_fault_9 : decode cX7_fault 9 = .ok (.invokevirtual 119, 3) := by decide +kernel
theorem dX7_fault_12 : decode cX7_fault 12 = .ok (.goto 5, 3) := by decide +kernel
theorem dX7_fault_15 : decode cX7_fault 15 = .ok (.bipush (-2), 2) := by decide +kernel
theorem dX7_fault_17 : decode cX7_fault 17 = .ok (.ireturn, 1) := by decide +kernel
theorem dX7_isShip_0 : decode cX7_isShip 0 = .ok (.iload_n 1, 1) := by decide +kernel
theorem dX7_isShip_1 : decode cX7_isShip 1 = .ok (.i2l, 1) := by decide +kernel
theorem dX7_isShip_2 : decode cX7_isShip 2 = .ok (.lconst 0, 1) := by decide +kernel
theorem dX7_isShip_3 : decode cX7_isShip 3 = .ok (.aload_n 0, 1) := by decide +kernel
theorem dX7_isShip_4 : decode cX7_isShip 4 = .ok (.getfield 28, 3) := by decide +kernel
theorem dX7_isShip_7 : decode cX7_isShip 7 = .ok (.iconst 0, 1) := by decide +kernel
theorem dX7_isShip_8 : decode cX7_isShip 8 = .ok (.iaload, 1) := by decide +kernel
theorem dX7_isShip_9 : decode cX7_isShip 9 = .ok (.iconst 1, 1) := by decide +kernel
theorem dX7_isShip_10 : decode cX7_isShip 10 = .ok (.isub, 1) := by decide +kernel
theorem dX7_isShip_11 : decode cX7_isShip 11 = .ok (.i2l, 1) := by decide +kernel
theorem dX7_isShip_12 : decode cX7_isShip 12 = .ok (.invokestatic 61, 3) := by decide +kernel
theorem dX7_isShip_15 : decode cX7_isShip 15 = .ok (.ireturn, 1) := by decide +kernel
theorem dX7_isName_0 : decode cX7_isName 0 = .ok (.iload_n 1, 1) := by decide +kernel
theorem dX7_isName_1 : decode cX7_isName 1 = .ok (.i2l, 1) := by decide +kernel
theorem dX7_isName_2 : decode cX7_isName 2 = .ok (.lconst 0, 1) := by decide +kernel
theorem dX7_isName_3 : decode cX7_isName 3 = .ok (.aload_n 0, 1) := by decide +kernel
theorem dX7_isName_4 : decode cX7_isName 4 = .ok (.getfield 28, 3) := by decide +kernel
theorem dX7_isName_7 : decode cX7_isName 7 = .ok (.iconst 1, 1) := by decide +kernel
theorem dX7_isName_8 : decode cX7_isName 8 = .ok (.iaload, 1) := by decide +kernel
theorem dX7_isName_9 : decode cX7_isName 9 = .ok (.iconst 1, 1) := by decide +kernel
theorem dX7_isName_10 : decode cX7_isName 10 = .ok (.isub, 1) := by decide +kernel
theorem dX7_isName_11 : decode cX7_isName 11 = .ok (.i2l, 1) := by decide +kernel
theorem dX7_isName_12 : decode cX7_isName 12 = .ok (.invokestatic 61, 3) := by decide +kernel
theorem dX7_isName_15 : decode cX7_isName 15 = .ok (.ireturn, 1) := by decide +kernel
theorem dX7_isYear_0 : decode cX7_isYear 0 = .ok (.iload_n 0, 1) := by decide +kernel
theorem dX7_isYear_1 : decode cX7_isYear 1 = .ok (.i2l, 1) := by decide +kernel
theorem dX7_isYear_2 : decode cX7_isYear 2 = .ok (.lconst 0, 1) := by decide +kernel
theorem dX7_isYear_3 : decode cX7_isYear 3 = .ok (.ldc2_w 122, 3) := by decide +kernel
theorem dX7_isYear_6 : decode cX7_isYear 6 = .ok (.invokestatic 61, 3) := by decide +kernel
theorem dX7_isYear_9 : decode cX7_isYear 9 = .ok (.ireturn, 1) := by decide +kernel
theorem dX7_ship_0 : decode cX7_ship 0 = .ok (.aload_n 0, 1) := by decide +kernel
theorem dX7_ship_1 : decode cX7_ship 1 = .ok (.invokevirtual 124, 3) := by decide +kernel
theorem dX7_ship_4 : decode cX7_ship 4 = .ok (.aload_n 0, 1) := by decide +kernel
theorem dX7_ship_5 : decode cX7_ship 5 = .ok (.iload_n 1, 1) := by decide +kernel
theorem dX7_ship_6 : decode cX7_ship 6 = .ok (.invokevirtual 127, 3) := by decide +kernel
theorem dX7_ship_9 : decode cX7_ship 9 = .ok (.ifCond .eq 23, 3) := by decide +kernel
theorem dX7_ship_12 : decode cX7_ship 12 = .ok (.iload_n 2, 1) := by decide +kernel
theorem dX7_ship_13 : decode cX7_ship 13 = .ok (.invokestatic 130, 3) := by decide +kernel
theorem dX7_ship_16 : decode cX7_ship 16 = .ok (.ifCond .eq 16, 3) := by decide +kernel
theorem dX7_ship_19 : decode cX7_ship 19 = .ok (.aload_n 0, 1) := by decide +kernel
theorem dX7_ship_20 : decode cX7_ship 20 = .ok (.getfield 31, 3) := by decide +kernel
theorem dX7_ship_23 : decode cX7_ship 23 = .ok (.iconst 2, 1) := by decide +kernel
theorem dX7_ship_24 : decode cX7_ship 24 = .ok (.iload_n 1, 1) := by decide +kernel
theorem dX7_ship_25 : decode cX7_ship 25 = .ok (.imul, 1) := by decide +kernel
theorem dX7_ship_26 : decode cX7_ship 26 = .ok (.iload_n 2, 1) := by decide +kernel
theorem dX7_ship_27 : decode cX7_ship 27 = .ok (.iadd, 1) := by decide +kernel
theorem dX7_ship_28 : decode cX7_ship 28 = .ok (.iaload, 1) := by decide +kernel
theorem dX7_ship_29 : decode cX7_ship 29 = .ok (.goto 5, 3) := by decide +kernel
theorem dX7_ship_32 : decode cX7_ship 32 = .ok (.bipush (-2), 2) := by decide +kernel
theorem dX7_ship_34 : decode cX7_ship 34 = .ok (.ireturn, 1) := by decide +kernel
theorem dX7_name_0 : decode cX7_name 0 = .ok (.aload_n 0, 1) := by decide +kernel
theorem dX7_name_1 : decode cX7_name 1 = .ok (.invokevirtual 124, 3) := by decide +kernel
theorem dX7_name_4 : decode cX7_name 4 = .ok (.aload_n 0, 1) := by decide +kernel
theorem dX7_name_5 : decode cX7_name 5 = .ok (.iload_n 1, 1) := by decide +kernel
theorem dX7_name_6 : decode cX7_name 6 = .ok (.invokevirtual 133, 3) := by decide +kernel
theorem dX7_name_9 : decode cX7_name 9 = .ok (.ifCond .eq 28, 3) := by decide +kernel
theorem dX7_name_12 : decode cX7_name 12 = .ok (.iload_n 2, 1) := by decide +kernel
theorem dX7_name_13 : decode cX7_name 13 = .ok (.i2l, 1) := by decide +kernel
theorem dX7_name_14 : decode cX7_name 14 = .ok (.lconst 0, 1) := by decide +kernel
theorem dX7_name_15 : decode cX7_name 15 = .ok (.ldc2_w 74, 3) := by decide +kernel
theorem dX7_name_18 : decode cX7_name 18 = .ok (.invokestatic 61, 3) := by decide +kernel
theorem dX7_name_21 : decode cX7_name 21 = .ok (.ifCond .eq 16, 3) := by decide +kernel
theorem dX7_name_24 : decode cX7_name 24 = .ok (.aload_n 0, 1) := by decide +kernel
theorem dX7_name_25 : decode cX7_name 25 = .ok (.getfield 34, 3) := by decide +kernel
theorem dX7_name_28 : decode cX7_name 28 = .ok (.iconst 3, 1) := by decide +kernel
theorem dX7_name_29 : decode cX7_name 29 = .ok (.iload_n 1, 1) := by decide +kernel
theorem dX7_name_30 : decode cX7_name 30 = .ok (.imul, 1) := by decide +kernel
theorem dX7_name_31 : decode cX7_name 31 = .ok (.iload_n 2, 1) := by decide +kernel
theorem dX7_name_32 : decode cX7_name 32 = .ok (.iadd, 1) := by decide +kernel
theorem dX7_name_33 : decode cX7_name 33 = .ok (.iaload, 1) := by decide +kernel
theorem dX7_name_34 : decode cX7_name 34 = .ok (.goto 5, 3) := by decide +kernel
theorem dX7_name_37 : decode cX7_name 37 = .ok (.bipush (-2), 2) := by decide +kernel
theorem dX7_name_39 : decode cX7_name 39 = .ok (.ireturn, 1) := by decide +kernel
theorem dX7_struck_0 : decode cX7_struck 0 = .ok (.iload_n 1, 1) := by decide +kernel
theorem dX7_struck_1 : decode cX7_struck 1 = .ok (.i2l, 1) := by decide +kernel
theorem dX7_struck_2 : decode cX7_struck 2 = .ok (.lconst 0, 1) := by decide +kernel
theorem dX7_struck_3 : decode cX7_struck 3 = .ok (.ldc2_w 92, 3) := by decide +kernel
theorem dX7_struck_6 : decode cX7_struck 6 = .ok (.invokestatic 61, 3) := by decide +kernel
theorem dX7_struck_9 : decode cX7_struck 9 = .ok (.ifCond .ne 6, 3) := by decide +kernel
theorem dX7_struck_12 : decode cX7_struck 12 = .ok (.bipush (-2), 2) := by decide +kernel
theorem dX7_struck_14 : decode cX7_struck 14 = .ok (.ireturn, 1) := by decide +kernel
theorem dX7_struck_15 : decode cX7_struck 15 = .ok (.aload_n 0, 1) := by decide +kernel
theorem dX7_struck_16 : decode cX7_struck 16 = .ok (.getfield 136, 3) := by decide +kernel
theorem dX7_struck_19 : decode cX7_struck 19 = .ok (.istore_n 2, 1) := by decide +kernel
theorem dX7_struck_20 : decode cX7_struck 20 = .ok (.aload_n 0, 1) := by decide +kernel
theorem dX7_struck_21 : decode cX7_struck 21 = .ok (.iload_n 1, 1) := by decide +kernel
theorem dX7_struck_22 : decode cX7_struck 22 = .ok (.putfield 136, 3) := by decide +kernel
theorem dX7_struck_25 : decode cX7_struck 25 = .ok (.iload_n 2, 1) := by decide +kernel
theorem dX7_struck_26 : decode cX7_struck 26 = .ok (.ireturn, 1) := by decide +kernel
theorem dX7_bearerOf_0 : decode cX7_bearerOf 0 = .ok (.iload_n 1, 1) := by decide +kernel
theorem dX7_bearerOf_1 : decode cX7_bearerOf 1 = .ok (.istore_n 2, 1) := by decide +kernel
theorem dX7_bearerOf_2 : decode cX7_bearerOf 2 = .ok (.iconst 0, 1) := by decide +kernel
theorem dX7_bearerOf_3 : decode cX7_bearerOf 3 = .ok (.istore_n 3, 1) := by decide +kernel
theorem dX7_bearerOf_4 : decode cX7_bearerOf 4 = .ok (.iload_n 3, 1) := by decide +kernel
theorem dX7_bearerOf_5 : decode cX7_bearerOf 5 = .ok (.bipush 9, 2) := by decide +kernel
theorem dX7_bearerOf_7 : decode cX7_bearerOf 7 = .ok (.if_icmp .ge 59, 3) := by decide +kernel
theorem dX7_bearerOf_10 : decode cX7_bearerOf 10 = .ok (.aload_n 0, 1) := by decide +kernel
theorem dX7_bearerOf_11 : decode cX7_bearerOf 11 = .ok (.getfield 34, 3) := by decide +kernel
theorem dX7_bearerOf_14 : decode cX7_bearerOf 14 = .ok (.iconst 3, 1) := by decide +kernel
theorem dX7_bearerOf_15 : decode cX7_bearerOf 15 = .ok (.iload_n 2, 1) := by decide +kernel
theorem dX7_bearerOf_16 : decode cX7_bearerOf 16 = .ok (.imul, 1) := by decide +kernel
theorem dX7_bearerOf_17 : decode cX7_bearerOf 17 = .ok (.iconst 2, 1) := by decide +kernel
theorem dX7_bearerOf_18 : decode cX7_bearerOf 18 = .ok (.iadd, 1) := by decide +kernel
theorem dX7_bearerOf_19 : decode cX7_bearerOf 19 = .ok (.iaload, 1) := by decide +kernel
theorem dX7_bearerOf_20 : decode cX7_bearerOf 20 = .ok (.istore 4, 2) := by decide +kernel
theorem dX7_bearerOf_22 : decode cX7_bearerOf 22 = .ok (.iload 4, 2) := by decide +kernel
theorem dX7_bearerOf_24 : decode cX7_bearerOf 24 = .ok (.iconst (-1), 1) := by decide +kernel
theorem dX7_bearerOf_25 : decode cX7_bearerOf 25 = .ok (.if_icmp .eq 30, 3) := by decide +kernel
theorem dX7_bearerOf_28 : decode cX7_bearerOf 28 = .ok (.iload 4, 2) := by decide +kernel
theorem dX7_bearerOf_30 : decode cX7_bearerOf 30 = .ok (.iload_n 2, 1) := by decide +kernel
theorem dX7_bearerOf_31 : decode cX7_bearerOf 31 = .ok (.if_icmp .eq 24, 3) := by decide +kernel
theorem dX7_bearerOf_34 : decode cX7_bearerOf 34 = .ok (.aload_n 0, 1) := by decide +kernel
theorem dX7_bearerOf_35 : decode cX7_bearerOf 35 = .ok (.iload 4, 2) := by decide +kernel
theorem dX7_bearerOf_37 : decode cX7_bearerOf 37 = .ok (.invokevirtual 133, 3) := by decide +kernel
theorem dX7_bearerOf_40 : decode cX7_bearerOf 40 = .ok (.ifCond .eq 15, 3) := by decide +kernel
theorem dX7_bearerOf_43 : decode cX7_bearerOf 43 = .ok (.aload_n 0, 1) := by decide +kernel
theorem dX7_bearerOf_44 : decode cX7_bearerOf 44 = .ok (.getfield 136, 3) := by decide +kernel
theorem dX7_bearerOf_47 : decode cX7_bearerOf 47 = .ok (.iload 4, 2) := by decide +kernel
theorem dX7_bearerOf_49 : decode cX7_bearerOf 49 = .ok (.invokestatic 139, 3) := by decide +kernel
theorem dX7_bearerOf_52 : decode cX7_bearerOf 52 = .ok (.ifCond .eq 5, 3) := by decide +kernel
theorem dX7_bearerOf_55 : decode cX7_bearerOf 55 = .ok (.iload_n 2, 1) := by decide +kernel
theorem dX7_bearerOf_56 : decode cX7_bearerOf 56 = .ok (.ireturn, 1) := by decide +kernel
theorem dX7_bearerOf_57 : decode cX7_bearerOf 57 = .ok (.iload 4, 2) := by decide +kernel
theorem dX7_bearerOf_59 : decode cX7_bearerOf 59 = .ok (.istore_n 2, 1) := by decide +kernel
theorem dX7_bearerOf_60 : decode cX7_bearerOf 60 = .ok (.iinc 3 1, 3) := by decide +kernel
theorem dX7_bearerOf_63 : decode cX7_bearerOf 63 = .ok (.goto (-59), 3) := by decide +kernel
theorem dX7_bearerOf_66 : decode cX7_bearerOf 66 = .ok (.iconst (-1), 1) := by decide +kernel
theorem dX7_bearerOf_67 : decode cX7_bearerOf 67 = .ok (.ireturn, 1) := by decide +kernel
theorem dX7_stands_0 : decode cX7_stands 0 = .ok (.aload_n 0, 1) := by decide +kernel
theorem dX7_stands_1 : decode cX7_stands 1 = .ok (.aload_n 0, 1) := by decide +kernel
theorem dX7_stands_2 : decode cX7_stands 2 = .ok (.getfield 37, 3) := by decide +kernel
theorem dX7_stands_5 : decode cX7_stands 5 = .ok (.iconst 3, 1) := by decide +kernel
theorem dX7_stands_6 : decode cX7_stands 6 = .ok (.iload_n 1, 1) := by decide +kernel
theorem dX7_stands_7 : decode cX7_stands 7 = .ok (.imul, 1) := by decide +kernel
theorem dX7_stands_8 : decode cX7_stands 8 = .ok (.iaload, 1) := by decide +kernel
theorem dX7_stands_9 : decode cX7_stands 9 = .ok (.invokevirtual 127, 3) := by decide +kernel
theorem dX7_stands_12 : decode cX7_stands 12 = .ok (.ifCond .eq 44, 3) := by decide +kernel
theorem dX7_stands_15 : decode cX7_stands 15 = .ok (.aload_n 0, 1) := by decide +kernel
theorem dX7_stands_16 : decode cX7_stands 16 = .ok (.aload_n 0, 1) := by decide +kernel
theorem dX7_stands_17 : decode cX7_stands 17 = .ok (.getfield 37, 3) := by decide +kernel
theorem dX7_stands_20 : decode cX7_stands 20 = .ok (.iconst 3, 1) := by decide +kernel
theorem dX7_stands_21 : decode cX7_stands 21 = .ok (.iload_n 1, 1) := by decide +kernel
theorem dX7_stands_22 : decode cX7_stands 22 = .ok (.imul, 1) := by decide +kernel
theorem dX7_stands_23 : decode cX7_stands 23 = .ok (.iconst 1, 1) := by decide +kernel
theorem dX7_stands_24 : decode cX7_stands 24 = .ok (.iadd, 1) := by decide +kernel
theorem dX7_stands_25 : decode cX7_stands 25 = .ok (.iaload, 1) := by decide +kernel
theorem dX7_stands_26 : decode cX7_stands 26 = .ok (.invokevirtual 133, 3) := by decide +kernel
theorem dX7_stands_29 : decode cX7_stands 29 = .ok (.ifCond .eq 27, 3) := by decide +kernel
theorem dX7_stands_32 : decode cX7_stands 32 = .ok (.aload_n 0, 1) := by decide +kernel
theorem dX7_stands_33 : decode cX7_stands 33 = .ok (.getfield 136, 3) := by decide +kernel
theorem dX7_stands_36 : decode cX7_stands 36 = .ok (.aload_n 0, 1) := by decide +kernel
theorem dX7_stands_37 : decode cX7_stands 37 = .ok (.getfield 37, 3) := by decide +kernel
theorem dX7_stands_40 : decode cX7_stands 40 = .ok (.iconst 3, 1) := by decide +kernel
theorem dX7_stands_41 : decode cX7_stands 41 = .ok (.iload_n 1, 1) := by decide +kernel
theorem dX7_stands_42 : decode cX7_stands 42 = .ok (.imul, 1) := by decide +kernel
theorem dX7_stands_43 : decode cX7_stands 43 = .ok (.iconst 1, 1) := by decide +kernel
theorem dX7_stands_44 : decode cX7_stands 44 = .ok (.iadd, 1) := by decide +kernel
theorem dX7_stands_45 : decode cX7_stands 45 = .ok (.iaload, 1) := by decide +kernel
theorem dX7_stands_46 : decode cX7_stands 46 = .ok (.invokestatic 139, 3) := by decide +kernel
theorem dX7_stands_49 : decode cX7_stands 49 = .ok (.ifCond .ne 7, 3) := by decide +kernel
theorem dX7_stands_52 : decode cX7_stands 52 = .ok (.iconst 1, 1) := by decide +kernel
theorem dX7_stands_53 : decode cX7_stands 53 = .ok (.goto 4, 3) := by decide +kernel
theorem dX7_stands_56 : decode cX7_stands 56 = .ok (.iconst 0, 1) := by decide +kernel
theorem dX7_stands_57 : decode cX7_stands 57 = .ok (.ireturn, 1) := by decide +kernel
theorem dX7_dueOf_0 : decode cX7_dueOf 0 = .ok (.aload_n 0, 1) := by decide +kernel
theorem dX7_dueOf_1 : decode cX7_dueOf 1 = .ok (.iload_n 1, 1) := by decide +kernel
theorem dX7_dueOf_2 : decode cX7_dueOf 2 = .ok (.invokevirtual 143, 3) := by decide +kernel
theorem dX7_dueOf_5 : decode cX7_dueOf 5 = .ok (.ifCond .ne 5, 3) := by decide +kernel
theorem dX7_dueOf_8 : decode cX7_dueOf 8 = .ok (.iconst 0, 1) := by decide +kernel
theorem dX7_dueOf_9 : decode cX7_dueOf 9 = .ok (.ireturn, 1) := by decide +kernel
theorem dX7_dueOf_10 : decode cX7_dueOf 10 = .ok (.iconst 0, 1) := by decide +kernel
theorem dX7_dueOf_11 : decode cX7_dueOf 11 = .ok (.istore_n 2, 1) := by decide +kernel
theorem dX7_dueOf_12 : decode cX7_dueOf 12 = .ok (.iconst 0, 1) := by decide +kernel
theorem dX7_dueOf_13 : decode cX7_dueOf 13 = .ok (.istore_n 3, 1) := by decide +kernel
theorem dX7_dueOf_14 : decode cX7_dueOf 14 = .ok (.iload_n 3, 1) := by decide +kernel
theorem dX7_dueOf_15 : decode cX7_dueOf 15 = .ok (.aload_n 0, 1) := by decide +kernel
theorem dX7_dueOf_16 : decode cX7_dueOf 16 = .ok (.getfield 28, 3) := by decide +kernel
theorem dX7_dueOf_19 : decode cX7_dueOf 19 = .ok (.iconst 2, 1) := by decide +kernel
theorem dX7_dueOf_20 : decode cX7_dueOf 20 = .ok (.iaload, 1) := by decide +kernel
theorem dX7_dueOf_21 : decode cX7_dueOf 21 = .ok (.if_icmp .ge 53, 3) := by decide +kernel
theorem dX7_dueOf_24 : decode cX7_dueOf 24 = .ok (.iload_n 2, 1) := by decide +kernel
theorem dX7_dueOf_25 : decode cX7_dueOf 25 = .ok (.aload_n 0, 1) := by decide +kernel
theorem dX7_dueOf_26 : decode cX7_dueOf 26 = .ok (.iload_n 3, 1) := by decide +kernel
theorem dX7_dueOf_27 : decode cX7_dueOf 27 = .ok (.invokevirtual 143, 3) := by decide +kernel
theorem dX7_dueOf_30 : decode cX7_dueOf 30 = .ok (.ifCond .eq 35, 3) := by decide +kernel
theorem dX7_dueOf_33 : decode cX7_dueOf 33 = .ok (.aload_n 0, 1) := by decide +kernel
theorem dX7_dueOf_34 : decode cX7_dueOf 34 = .ok (.getfield 37, 3) := by decide +kernel
theorem dX7_dueOf_37 : decode cX7_dueOf 37 = .ok (.iconst 3, 1) := by decide +kernel
theorem dX7_dueOf_38 : decode cX7_dueOf 38 = .ok (.iload_n 3, 1) := by decide +kernel
theorem dX7_dueOf_39 : decode cX7_dueOf 39 = .ok (.imul, 1) := by decide +kernel
theorem dX7_dueOf_40 : decode cX7_dueOf 40 = .ok (.iaload, 1) := by decide +kernel
theorem dX7_dueOf_41 : decode cX7_dueOf 41 = .ok (.aload_n 0, 1) := by decide +kernel
theorem dX7_dueOf_42 : decode cX7_dueOf 42 = .ok (.getfield 37, 3) := by decide +kernel
theorem dX7_dueOf_45 : decode cX7_dueOf 45 = .ok (.iconst 3, 1) := by decide +kernel
theorem dX7_dueOf_46 : decode cX7_dueOf 46 = .ok (.iload_n 1, 1) := by decide +kernel
theorem dX7_dueOf_47 : decode cX7_dueOf 47 = .ok (.imul, 1) := by decide +kernel
theorem dX7_dueOf_48 : decode cX7_dueOf 48 = .ok (.iaload, 1) := by decide +kernel
theorem dX7_dueOf_49 : decode cX7_dueOf 49 = .ok (.if_icmp .ne 16, 3) := by decide +kernel
theorem dX7_dueOf_52 : decode cX7_dueOf 52 = .ok (.aload_n 0, 1) := by decide +kernel
theorem dX7_dueOf_53 : decode cX7_dueOf 53 = .ok (.getfield 37, 3) := by decide +kernel
theorem dX7_dueOf_56 : decode cX7_dueOf 56 = .ok (.iconst 3, 1) := by decide +kernel
theorem dX7_dueOf_57 : decode cX7_dueOf 57 = .ok (.iload_n 3, 1) := by decide +kernel
theorem dX7_dueOf_58 : decode cX7_dueOf 58 = .ok (.imul, 1) := by decide +kernel
theorem dX7_dueOf_59 : decode cX7_dueOf 59 = .ok (.iconst 2, 1) := by decide +kernel
theorem dX7_dueOf_60 : decode cX7_dueOf 60 = .ok (.iadd, 1) := by decide +kernel
theorem dX7_dueOf_61 : decode cX7_dueOf 61 = .ok (.iaload, 1) := by decide +kernel
theorem dX7_dueOf_62 : decode cX7_dueOf 62 = .ok (.goto 4, 3) := by decide +kernel
theorem dX7_dueOf_65 : decode cX7_dueOf 65 = .ok (.iconst 0, 1) := by decide +kernel
theorem dX7_dueOf_66 : decode cX7_dueOf 66 = .ok (.iadd, 1) := by decide +kernel
theorem dX7_dueOf_67 : decode cX7_dueOf 67 = .ok (.istore_n 2, 1) := by decide +kernel
theorem dX7_dueOf_68 : decode cX7_dueOf 68 = .ok (.iinc 3 1, 3) := by decide +kernel
theorem dX7_dueOf_71 : decode cX7_dueOf 71 = .ok (.goto (-57), 3) := by decide +kernel
theorem dX7_dueOf_74 : decode cX7_dueOf 74 = .ok (.aload_n 0, 1) := by decide +kernel
theorem dX7_dueOf_75 : decode cX7_dueOf 75 = .ok (.getfield 31, 3) := by decide +kernel
theorem dX7_dueOf_78 : decode cX7_dueOf 78 = .ok (.iconst 2, 1) := by decide +kernel
theorem dX7_dueOf_79 : decode cX7_dueOf 79 = .ok (.aload_n 0, 1) := by decide +kernel
theorem dX7_dueOf_80 : decode cX7_dueOf 80 = .ok (.getfield 37, 3) := by decide +kernel
theorem dX7_dueOf_83 : decode cX7_dueOf 83 = .ok (.iconst 3, 1) := by decide +kernel
theorem dX7_dueOf_84 : decode cX7_dueOf 84 = .ok (.iload_n 1, 1) := by decide +kernel
theorem dX7_dueOf_85 : decode cX7_dueOf 85 = .ok (.imul, 1) := by decide +kernel
theorem dX7_dueOf_86 : decode cX7_dueOf 86 = .ok (.iaload, 1) := by decide +kernel
theorem dX7_dueOf_87 : decode cX7_dueOf 87 = .ok (.imul, 1) := by decide +kernel
theorem dX7_dueOf_88 : decode cX7_dueOf 88 = .ok (.iaload, 1) := by decide +kernel
theorem dX7_dueOf_89 : decode cX7_dueOf 89 = .ok (.istore_n 3, 1) := by decide +kernel
theorem dX7_dueOf_90 : decode cX7_dueOf 90 = .ok (.iload_n 2, 1) := by decide +kernel
theorem dX7_dueOf_91 : decode cX7_dueOf 91 = .ok (.iload_n 3, 1) := by decide +kernel
theorem dX7_dueOf_92 : decode cX7_dueOf 92 = .ok (.if_icmp .le 20, 3) := by decide +kernel
theorem dX7_dueOf_95 : decode cX7_dueOf 95 = .ok (.aload_n 0, 1) := by decide +kernel
theorem dX7_dueOf_96 : decode cX7_dueOf 96 = .ok (.getfield 37, 3) := by decide +kernel
theorem dX7_dueOf_99 : decode cX7_dueOf 99 = .ok (.iconst 3, 1) := by decide +kernel
theorem dX7_dueOf_100 : decode cX7_dueOf 100 = .ok (.iload_n 1, 1) := by decide +kernel
theorem dX7_dueOf_101 : decode cX7_dueOf 101 = .ok (.imul, 1) := by decide +kernel
theorem dX7_dueOf_102 : decode cX7_dueOf 102 = .ok (.iconst 2, 1) := by decide +kernel
theorem dX7_dueOf_103 : decode cX7_dueOf 103 = .ok (.iadd, 1) := by decide +kernel
theorem dX7_dueOf_104 : decode cX7_dueOf 104 = .ok (.iaload, 1) := by decide +kernel
theorem dX7_dueOf_105 : decode cX7_dueOf 105 = .ok (.iload_n 3, 1) := by decide +kernel
theorem dX7_dueOf_106 : decode cX7_dueOf 106 = .ok (.imul, 1) := by decide +kernel
theorem dX7_dueOf_107 : decode cX7_dueOf 107 = .ok (.iload_n 2, 1) := by decide +kernel
theorem dX7_dueOf_108 : decode cX7_dueOf 108 = .ok (.idiv, 1) := by decide +kernel
theorem dX7_dueOf_109 : decode cX7_dueOf 109 = .ok (.goto 13, 3) := by decide +kernel
theorem dX7_dueOf_112 : decode cX7_dueOf 112 = .ok (.aload_n 0, 1) := by decide +kernel
theorem dX7_dueOf_113 : decode cX7_dueOf 113 = .ok (.getfield 37, 3) := by decide +kernel
theorem dX7_dueOf_116 : decode cX7_dueOf 116 = .ok (.iconst 3, 1) := by decide +kernel
theorem dX7_dueOf_117 : decode cX7_dueOf 117 = .ok (.iload_n 1, 1) := by decide +kernel
theorem dX7_dueOf_118 : decode cX7_dueOf 118 = .ok (.imul, 1) := by decide +kernel
theorem dX7_dueOf_119 : decode cX7_dueOf 119 = .ok (.iconst 2, 1) := by decide +kernel
theorem dX7_dueOf_120 : decode cX7_dueOf 120 = .ok (.iadd, 1) := by decide +kernel
theorem dX7_dueOf_121 : decode cX7_dueOf 121 = .ok (.iaload, 1) := by decide +kernel
theorem dX7_dueOf_122 : decode cX7_dueOf 122 = .ok (.ireturn, 1) := by decide +kernel
theorem dX7_lineOf_0 : decode cX7_lineOf 0 = .ok (.iload_n 2, 1) := by decide +kernel
theorem dX7_lineOf_1 : decode cX7_lineOf 1 = .ok (.iconst 3, 1) := by decide +kernel
theorem dX7_lineOf_2 : decode cX7_lineOf 2 = .ok (.if_icmp .ge 16, 3) := by decide +kernel
theorem dX7_lineOf_5 : decode cX7_lineOf 5 = .ok (.aload_n 0, 1) := by decide +kernel
theorem dX7_lineOf_6 : decode cX7_lineOf 6 = .ok (.getfield 37, 3) := by decide +kernel
theorem dX7_lineOf_9 : decode cX7_lineOf 9 = .ok (.iconst 3, 1) := by decide +kernel
theorem dX7_lineOf_10 : decode cX7_lineOf 10 = .ok (.iload_n 1, 1) := by decide +kernel
theorem dX7_lineOf_11 : decode cX7_lineOf 11 = .ok (.imul, 1) := by decide +kernel
theorem dX7_lineOf_12 : decode cX7_lineOf 12 = .ok (.iload_n 2, 1) := by decide +kernel
theorem dX7_lineOf_13 : decode cX7_lineOf 13 = .ok (.iadd, 1) := by decide +kernel
theorem dX7_lineOf_14 : decode cX7_lineOf 14 = .ok (.iaload, 1) := by decide +kernel
theorem dX7_lineOf_15 : decode cX7_lineOf 15 = .ok (.goto 8, 3) := by decide +kernel
theorem dX7_lineOf_18 : decode cX7_lineOf 18 = .ok (.aload_n 0, 1) := by decide +kernel
theorem dX7_lineOf_19 : decode cX7_lineOf 19 = .ok (.iload_n 1, 1) := by decide +kernel
theorem dX7_lineOf_20 : decode cX7_lineOf 20 = .ok (.invokevirtual 146, 3) := by decide +kernel
theorem dX7_lineOf_23 : decode cX7_lineOf 23 = .ok (.ireturn, 1) := by decide +kernel
theorem dX7_line_0 : decode cX7_line 0 = .ok (.aload_n 0, 1) := by decide +kernel
theorem dX7_line_1 : decode cX7_line 1 = .ok (.invokevirtual 124, 3) := by decide +kernel
theorem dX7_line_4 : decode cX7_line 4 = .ok (.iload_n 1, 1) := by decide +kernel
theorem dX7_line_5 : decode cX7_line 5 = .ok (.i2l, 1) := by decide +kernel
theorem dX7_line_6 : decode cX7_line 6 = .ok (.lconst 0, 1) := by decide +kernel
theorem dX7_line_7 : decode cX7_line 7 = .ok (.aload_n 0, 1) := by decide +kernel
theorem dX7_line_8 : decode cX7_line 8 = .ok (.getfield 28, 3) := by decide +kernel
theorem dX7_line_11 : decode cX7_line 11 = .ok (.iconst 2, 1) := by decide +kernel
theorem dX7_line_12 : decode cX7_line 12 = .ok (.iaload, 1) := by decide +kernel
theorem dX7_line_13 : decode cX7_line 13 = .ok (.iconst 1, 1) := by decide +kernel
theorem dX7_line_14 : decode cX7_line 14 = .ok (.isub, 1) := by decide +kernel
theorem dX7_line_15 : decode cX7_line 15 = .ok (.i2l, 1) := by decide +kernel
theorem dX7_line_16 : decode cX7_line 16 = .ok (.invokestatic 61, 3) := by decide +kernel
theorem dX7_line_19 : decode cX7_line 19 = .ok (.ifCond .eq 24, 3) := by decide +kernel
theorem dX7_line_22 : decode cX7_line 22 = .ok (.iload_n 2, 1) := by decide +kernel
theorem dX7_line_23 : decode cX7_line 23 = .ok (.i2l, 1) := by decide +kernel
theorem dX7_line_24 : decode cX7_line 24 = .ok (.lconst 0, 1) := by decide +kernel
theorem dX7_line_25 : decode cX7_line 25 = .ok (.ldc2_w 68, 3) := by decide +kernel
theorem dX7_line_28 : decode cX7_line 28 = .ok (.invokestatic 61, 3) := by decide +kernel
theorem dX7_line_31 : decode cX7_line 31 = .ok (.ifCond .eq 12, 3) := by decide +kernel
theorem dX7_line_34 : decode cX7_line 34 = .ok (.aload_n 0, 1) := by decide +kernel
theorem dX7_line_35 : decode cX7_line 35 = .ok (.iload_n 1, 1) := by decide +kernel
theorem dX7_line_36 : decode cX7_line 36 = .ok (.iload_n 2, 1) := by decide +kernel
theorem dX7_line_37 : decode cX7_line 37 = .ok (.invokevirtual 149, 3) := by decide +kernel
theorem dX7_line_40 : decode cX7_line 40 = .ok (.goto 5, 3) := by decide +kernel
theorem dX7_line_43 : decode cX7_line 43 = .ok (.bipush (-2), 2) := by decide +kernel
theorem dX7_line_45 : decode cX7_line 45 = .ok (.ireturn, 1) := by decide +kernel
theorem dX7_bearersOf_0 : decode cX7_bearersOf 0 = .ok (.iconst 0, 1) := by decide +kernel
theorem dX7_bearersOf_1 : decode cX7_bearersOf 1 = .ok (.istore_n 2, 1) := by decide +kernel
theorem dX7_bearersOf_2 : decode cX7_bearersOf 2 = .ok (.iconst 0, 1) := by decide +kernel
theorem dX7_bearersOf_3 : decode cX7_bearersOf 3 = .ok (.istore_n 3, 1) := by decide +kernel
theorem dX7_bearersOf_4 : decode cX7_bearersOf 4 = .ok (.iload_n 3, 1) := by decide +kernel
theorem dX7_bearersOf_5 : decode cX7_bearersOf 5 = .ok (.aload_n 0, 1) := by decide +kernel
theorem dX7_bearersOf_6 : decode cX7_bearersOf 6 = .ok (.getfield 28, 3) := by decide +kernel
theorem dX7_bearersOf_9 : decode cX7_bearersOf 9 = .ok (.iconst 1, 1) := by decide +kernel
theorem dX7_bearersOf_10 : decode cX7_bearersOf 10 = .ok (.iaload, 1) := by decide +kernel
