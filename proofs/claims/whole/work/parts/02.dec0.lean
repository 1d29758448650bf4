theorem dX0_init_0 : decode cX0_init 0 = .ok (.aload_n 0, 1) := by decide +kernel
theorem dX0_init_1 : decode cX0_init 1 = .ok (.invokespecial 3, 3) := by decide +kernel
theorem dX0_init_4 : decode cX0_init 4 = .ok (.aload_n 0, 1) := by decide +kernel
theorem dX0_init_5 : decode cX0_init 5 = .ok (.sipush 256, 3) := by decide +kernel
theorem dX0_init_8 : decode cX0_init 8 = .ok (.newarray .boolean, 2) := by decide +kernel
theorem dX0_init_10 : decode cX0_init 10 = .ok (.putfield 9, 3) := by decide +kernel
theorem dX0_init_13 : decode cX0_init 13 = .ok (.aload_n 0, 1) := by decide +kernel
theorem dX0_init_14 : decode cX0_init 14 = .ok (.bipush 100, 2) := by decide +kernel
theorem dX0_init_16 : decode cX0_init 16 = .ok (.newarray .int, 2) := by decide +kernel
theorem dX0_init_18 : decode cX0_init 18 = .ok (.putfield 15, 3) := by decide +kernel
theorem dX0_init_21 : decode cX0_init 21 = .ok (.aload_n 0, 1) := by decide +kernel
theorem dX0_init_22 : decode cX0_init 22 = .ok (.aload_n 1, 1) := by decide +kernel
theorem dX0_init_23 : decode cX0_init 23 = .ok (.putfield 19, 3) := by decide +kernel
theorem dX0_init_26 : decode cX0_init 26 = .ok (.aload_n 0, 1) := by decide +kernel
theorem dX0_init_27 : decode cX0_init 27 = .ok (.aload_n 2, 1) := by decide +kernel
theorem dX0_init_28 : decode cX0_init 28 = .ok (.putfield 23, 3) := by decide +kernel
theorem dX0_init_31 : decode cX0_init 31 = .ok (.aload_n 0, 1) := by decide +kernel
theorem dX0_init_32 : decode cX0_init 32 = .ok (.aload_n 3, 1) := by decide +kernel
theorem dX0_init_33 : decode cX0_init 33 = .ok (.putfield 27, 3) := by decide +kernel
theorem dX0_init_36 : decode cX0_init 36 = .ok (.return_, 1) := by decide +kernel
theorem dX0_weigh_0 : decode cX0_weigh 0 = .ok (.aload_n 0, 1) := by decide +kernel
theorem dX0_weigh_1 : decode cX0_weigh 1 = .ok (.iconst 0, 1) := by decide +kernel
theorem dX0_weigh_2 : decode cX0_weigh 2 = .ok (.putfield 31, 3) := by decide +kernel
theorem dX0_weigh_5 : decode cX0_weigh 5 = .ok (.aload_n 0, 1) := by decide +kernel
theorem dX0_weigh_6 : decode cX0_weigh 6 = .ok (.iconst (-1), 1) := by decide +kernel
theorem dX0_weigh_7 : decode cX0_weigh 7 = .ok (.putfield 35, 3) := by decide +kernel
theorem dX0_weigh_10 : decode cX0_weigh 10 = .ok (.iconst 0, 1) := by decide +kernel
theorem dX0_weigh_11 : decode cX0_weigh 11 = .ok (.istore_n 1, 1) := by decide +kernel
theorem dX0_weigh_12 : decode cX0_weigh 12 = .ok (.iload_n 1, 1) := by decide +kernel
theorem dX0_weigh_13 : decode cX0_weigh 13 = .ok (.iconst 1, 1) := by decide +kernel
theorem dX0_weigh_14 : decode cX0_weigh 14 = .ok (.aload_n 0, 1) := by decide +kernel
theorem dX0_weigh_15 : decode cX0_weigh 15 = .ok (.getfield 19, 3) := by decide +kernel
theorem dX0_weigh_18 : decode cX0_weigh 18 = .ok (.getfield 38, 3) := by decide +kernel
theorem dX0_weigh_21 : decode cX0_weigh 21 = .ok (.ishl, 1) := by decide +kernel
theorem dX0_weigh_22 : decode cX0_weigh 22 = .ok (.if_icmp .ge 59, 3) := by decide +kernel
theorem dX0_weigh_25 : decode cX0_weigh 25 = .ok (.aload_n 0, 1) := by decide +kernel
theorem dX0_weigh_26 : decode cX0_weigh 26 = .ok (.getfield 9, 3) := by decide +kernel
theorem dX0_weigh_29 : decode cX0_weigh 29 = .ok (.iload_n 1, 1) := by decide +kernel
theorem dX0_weigh_30 : decode cX0_weigh 30 = .ok (.aload_n 0, 1) := by decide +kernel
theorem dX0_weigh_31 : decode cX0_weigh 31 = .ok (.iload_n 1, 1) := by decide +kernel
theorem dX0_weigh_32 : decode cX0_weigh 32 = .ok (.invokevirtual 43, 3) := by decide +kernel
theorem dX0_weigh_35 : decode cX0_weigh 35 = .ok (.bastore, 1) := by decide +kernel
theorem dX0_weigh_36 : decode cX0_weigh 36 = .ok (.aload_n 0, 1) := by decide +kernel
theorem dX0_weigh_37 : decode cX0_weigh 37 = .ok (.getfield 9, 3) := by decide +kernel
theorem dX0_weigh_40 : decode cX0_weigh 40 = .ok (.iload_n 1, 1) := by decide +kernel
theorem dX0_weigh_41 : decode cX0_weigh 41 = .ok (.baload, 1) := by decide +kernel
theorem dX0_weigh_42 : decode cX0_weigh 42 = .ok (.ifCond .eq 33, 3) := by decide +kernel
theorem dX0_weigh_45 : decode cX0_weigh 45 = .ok (.aload_n 0, 1) := by decide +kernel
theorem dX0_weigh_46 : decode cX0_weigh 46 = .ok (.dup, 1) := by decide +kernel
theorem dX0_weigh_47 : decode cX0_weigh 47 = .ok (.getfield 31, 3) := by decide +kernel
theorem dX0_weigh_50 : decode cX0_weigh 50 = .ok (.iconst 1, 1) := by decide +kernel
theorem dX0_weigh_51 : decode cX0_weigh 51 = .ok (.iadd, 1) := by decide +kernel
theorem dX0_weigh_52 : decode cX0_weigh 52 = .ok (.putfield 31, 3) := by decide +kernel
theorem dX0_weigh_55 : decode cX0_weigh 55 = .ok (.aload_n 0, 1) := by decide +kernel
theorem dX0_weigh_56 : decode cX0_weigh 56 = .ok (.aload_n 0, 1) := by decide +kernel
theorem dX0_weigh_57 : decode cX0_weigh 57 = .ok (.getfield 35, 3) := by decide +kernel
theorem dX0_weigh_60 : decode cX0_weigh 60 = .ok (.iconst (-1), 1) := by decide +kernel
theorem dX0_weigh_61 : decode cX0_weigh 61 = .ok (.if_icmp .ne 7, 3) := by decide +kernel
theorem dX0_weigh_64 : decode cX0_weigh 64 = .ok (.iload_n 1, 1) := by decide +kernel
theorem dX0_weigh_65 : decode cX0_weigh 65 = .ok (.goto 7, 3) := by decide +kernel
theorem dX0_weigh_68 : decode cX0_weigh 68 = .ok (.aload_n 0, 1) := by decide +kernel
theorem dX0_weigh_69 : decode cX0_weigh 69 = .ok (.getfield 35, 3) := by decide +kernel
theorem dX0_weigh_72 : decode cX0_weigh 72 = .ok (.putfield 35, 3) := by decide +kernel
theorem dX0_weigh_75 : decode cX0_weigh 75 = .ok (.iinc 1 1, 3) := by decide +kernel
theorem dX0_weigh_78 : decode cX0_weigh 78 = .ok (.goto (-66), 3) := by decide +kernel
theorem dX0_weigh_81 : decode cX0_weigh 81 = .ok (.return_, 1) := by decide +kernel
theorem dX0_shipToPress_0 : decode cX0_shipToPress 0 = .ok (.iconst (-1), 1) := by decide +kernel
theorem dX0_shipToPress_1 : decode cX0_shipToPress 1 = .ok (.istore_n 1, 1) := by decide +kernel
theorem dX0_shipToPress_2 : decode cX0_shipToPress 2 = .ok (.iconst 0, 1) := by decide +kernel
theorem dX0_shipToPress_3 : decode cX0_shipToPress 3 = .ok (.istore_n 2, 1) := by decide +kernel
theorem dX0_shipToPress_4 : decode cX0_shipToPress 4 = .ok (.iconst 0, 1) := by decide +kernel
theorem dX0_shipToPress_5 : decode cX0_shipToPress 5 = .ok (.istore_n 3, 1) := by decide +kernel
theorem dX0_shipToPress_6 : decode cX0_shipToPress 6 = .ok (.iload_n 3, 1) := by decide +kernel
theorem dX0_shipToPress_7 : decode cX0_shipToPress 7 = .ok (.aload_n 0, 1) := by decide +kernel
theorem dX0_shipToPress_8 : decode cX0_shipToPress 8 = .ok (.getfield 19, 3) := by decide +kernel
theorem dX0_shipToPress_11 : decode cX0_shipToPress 11 = .ok (.getfield 47, 3) := by decide +kernel
theorem dX0_shipToPress_14 : decode cX0_shipToPress 14 = .ok (.if_icmp .ge 32, 3) := by decide +kernel
theorem dX0_shipToPress_17 : decode cX0_shipToPress 17 = .ok (.aload_n 0, 1) := by decide +kernel
theorem dX0_shipToPress_18 : decode cX0_shipToPress 18 = .ok (.iload_n 3, 1) := by decide +kernel
theorem dX0_shipToPress_19 : decode cX0_shipToPress 19 = .ok (.invokevirtual 50, 3) := by decide +kernel
theorem dX0_shipToPress_22 : decode cX0_shipToPress 22 = .ok (.istore 4, 2) := by decide +kernel
theorem dX0_shipToPress_24 : decode cX0_shipToPress 24 = .ok (.iload_n 1, 1) := by decide +kernel
theorem dX0_shipToPress_25 : decode cX0_shipToPress 25 = .ok (.iconst (-1), 1) := by decide +kernel
theorem dX0_shipToPress_26 : decode cX0_shipToPress 26 = .ok (.if_icmp .eq 9, 3) := by decide +kernel
theorem dX0_shipToPress_29 : decode cX0_shipToPress 29 = .ok (.iload 4, 2) := by decide +kernel
theorem dX0_shipToPress_31 : decode cX0_shipToPress 31 = .ok (.iload_n 2, 1) := by decide +kernel
theorem dX0_shipToPress_32 : decode cX0_shipToPress 32 = .ok (.if_icmp .ge 8, 3) := by decide +kernel
theorem dX0_shipToPress_35 : decode cX0_shipToPress 35 = .ok (.iload_n 3, 1) := by decide +kernel
theorem dX0_shipToPress_36 : decode cX0_shipToPress 36 = .ok (.istore_n 1, 1) := by decide +kernel
theorem dX0_shipToPress_37 : decode cX0_shipToPress 37 = .ok (.iload 4, 2) := by decide +kernel
theorem dX0_shipToPress_39 : decode cX0_shipToPress 39 = .ok (.istore_n 2, 1) := by decide +kernel
theorem dX0_shipToPress_40 : decode cX0_shipToPress 40 = .ok (.iinc 3 1, 3) := by decide +kernel
theorem dX0_shipToPress_43 : decode cX0_shipToPress 43 = .ok (.goto (-37), 3) := by decide +kernel
theorem dX0_shipToPress_46 : decode cX0_shipToPress 46 = .ok (.iload_n 1, 1) := by decide +kernel
theorem dX0_shipToPress_47 : decode cX0_shipToPress 47 = .ok (.ireturn, 1) := by decide +kernel
theorem dX0_fitsAllSeen_0 : decode cX0_fitsAllSeen 0 = .ok (.iconst 0, 1) := by decide +kernel
theorem dX0_fitsAllSeen_1 : decode cX0_fitsAllSeen 1 = .ok (.istore_n 2, 1) := by decide +kernel
theorem dX0_fitsAllSeen_2 : decode cX0_fitsAllSeen 2 = .ok (.iload_n 2, 1) := by decide +kernel
theorem dX0_fitsAllSeen_3 : decode cX0_fitsAllSeen 3 = .ok (.aload_n 0, 1) := by decide +kernel
theorem dX0_fitsAllSeen_4 : decode cX0_fitsAllSeen 4 = .ok (.getfield 27, 3) := by decide +kernel
theorem dX0_fitsAllSeen_7 : decode cX0_fitsAllSeen 7 = .ok (.getfield 54, 3) := by decide +kernel
theorem dX0_fitsAllSeen_10 : decode cX0_fitsAllSeen 10 = .ok (.if_icmp .ge 40, 3) := by decide +kernel
theorem dX0_fitsAllSeen_13 : decode cX0_fitsAllSeen 13 = .ok (.aload_n 0, 1) := by decide +kernel
theorem dX0_fitsAllSeen_14 : decode cX0_fitsAllSeen 14 = .ok (.getfield 23, 3) := by decide +kernel
theorem dX0_fitsAllSeen_17 : decode cX0_fitsAllSeen 17 = .ok (.aload_n 0, 1) := by decide +kernel
theorem dX0_fitsAllSeen_18 : decode cX0_fitsAllSeen 18 = .ok (.getfield 27, 3) := by decide +kernel
theorem dX0_fitsAllSeen_21 : decode cX0_fitsAllSeen 21 = .ok (.getfield 59, 3) := by decide +kernel
theorem dX0_fitsAllSeen_24 : decode cX0_fitsAllSeen 24 = .ok (.iload_n 2, 1) := by decide +kernel
theorem dX0_fitsAllSeen_25 : decode cX0_fitsAllSeen 25 = .ok (.iaload, 1) := by decide +kernel
theorem dX0_fitsAllSeen_26 : decode cX0_fitsAllSeen 26 = .ok (.iload_n 1, 1) := by decide +kernel
theorem dX0_fitsAllSeen_27 : decode cX0_fitsAllSeen 27 = .ok (.invokevirtual 62, 3) := by decide +kernel
theorem dX0_fitsAllSeen_30 : decode cX0_fitsAllSeen 30 = .ok (.aload_n 0, 1) := by decide +kernel
theorem dX0_fitsAllSeen_31 : decode cX0_fitsAllSeen 31 = .ok (.getfield 27, 3) := by decide +kernel
theorem dX0_fitsAllSeen_34 : decode cX0_fitsAllSeen 34 = .ok (.getfield 68, 3) := by decide +kernel
theorem dX0_fitsAllSeen_37 : decode cX0_fitsAllSeen 37 = .ok (.iload_n 2, 1) := by decide +kernel
theorem dX0_fitsAllSeen_38 : decode cX0_fitsAllSeen 38 = .ok (.iaload, 1) := by decide +kernel
theorem dX0_fitsAllSeen_39 : decode cX0_fitsAllSeen 39 = .ok (.if_icmp .eq 5, 3) := by decide +kernel
theorem dX0_fitsAllSeen_42 : decode cX0_fitsAllSeen 42 = .ok (.iconst 0, 1) := by decide +kernel
theorem dX0_fitsAllSeen_43 : decode cX0_fitsAllSeen 43 = .ok (.ireturn, 1) := by decide +kernel
theorem dX0_fitsAllSeen_44 : decode cX0_fitsAllSeen 44 = .ok (.iinc 2 1, 3) := by decide +kernel
theorem dX0_fitsAllSeen_47 : decode cX0_fitsAllSeen 47 = .ok (.goto (-45), 3) := by decide +kernel
theorem dX0_fitsAllSeen_50 : decode cX0_fitsAllSeen 50 = .ok (.iconst 1, 1) := by decide +kernel
theorem dX0_fitsAllSeen_51 : decode cX0_fitsAllSeen 51 = .ok (.ireturn, 1) := by decide +kernel
theorem dX0_greatestGroup_0 : decode cX0_greatestGroup 0 = .ok (.aload_n 0, 1) := by decide +kernel
theorem dX0_greatestGroup_1 : decode cX0_greatestGroup 1 = .ok (.getfield 15, 3) := by decide +kernel
theorem dX0_greatestGroup_4 : decode cX0_greatestGroup 4 = .ok (.iconst 0, 1) := by decide +kernel
theorem dX0_greatestGroup_5 : decode cX0_greatestGroup 5 = .ok (.invokestatic 71, 3) := by decide +kernel
theorem dX0_greatestGroup_8 : decode cX0_greatestGroup 8 = .ok (.iconst 0, 1) := by decide +kernel
theorem dX0_greatestGroup_9 : decode cX0_greatestGroup 9 = .ok (.istore_n 2, 1) := by decide +kernel
theorem dX0_greatestGroup_10 : decode cX0_greatestGroup 10 = .ok (.iconst 0, 1) := by decide +kernel
theorem dX0_greatestGroup_11 : decode cX0_greatestGroup 11 = .ok (.istore_n 3, 1) := by decide +kernel
theorem dX0_greatestGroup_12 : decode cX0_greatestGroup 12 = .ok (.iload_n 3, 1) := by decide +kernel
theorem dX0_greatestGroup_13 : decode cX0_greatestGroup 13 = .ok (.iconst 1, 1) := by decide +kernel
theorem dX0_greatestGroup_14 : decode cX0_greatestGroup 14 = .ok (.aload_n 0, 1) := by decide +kernel
theorem dX0_greatestGroup_15 : decode cX0_greatestGroup 15 = .ok (.getfield 19, 3) := by decide +kernel
theorem dX0_greatestGroup_18 : decode cX0_greatestGroup 18 = .ok (.getfield 38, 3) := by decide +kernel
theorem dX0_greatestGroup_21 : decode cX0_greatestGroup 21 = .ok (.ishl, 1) := by decide +kernel
theorem dX0_greatestGroup_22 : decode cX0_greatestGroup 22 = .ok (.if_icmp .ge 70, 3) := by decide +kernel
theorem dX0_greatestGroup_25 : decode cX0_greatestGroup 25 = .ok (.aload_n 0, 1) := by decide +kernel
theorem dX0_greatestGroup_26 : decode cX0_greatestGroup 26 = .ok (.getfield 9, 3) := by decide +kernel
theorem dX0_greatestGroup_29 : decode cX0_greatestGroup 29 = .ok (.iload_n 3, 1) := by decide +kernel
theorem dX0_greatestGroup_30 : decode cX0_greatestGroup 30 = .ok (.baload, 1) := by decide +kernel
theorem dX0_greatestGroup_31 : decode cX0_greatestGroup 31 = .ok (.ifCond .ne 6, 3) := by decide +kernel
theorem dX0_greatestGroup_34 : decode cX0_greatestGroup 34 = .ok (.goto 52, 3) := by decide +kernel
theorem dX0_greatestGroup_37 : decode cX0_greatestGroup 37 = .ok (.aload_n 0, 1) := by decide +kernel
theorem dX0_greatestGroup_38 : decode cX0_greatestGroup 38 = .ok (.getfield 23, 3) := by decide +kernel
theorem dX0_greatestGroup_41 : decode cX0_greatestGroup 41 = .ok (.iload_n 1, 1) := by decide +kernel
theorem dX0_greatestGroup_42 : decode cX0_greatestGroup 42 = .ok (.iload_n 3, 1) := by decide +kernel
theorem dX0_greatestGroup_43 : decode cX0_greatestGroup 43 = .ok (.invokevirtual 62, 3) := by decide +kernel
theorem dX0_greatestGroup_46 : decode cX0_greatestGroup 46 = .ok (.istore 4, 2) := by decide +kernel
theorem dX0_greatestGroup_48 : decode cX0_greatestGroup 48 = .ok (.iload 4, 2) := by decide +kernel
theorem dX0_greatestGroup_50 : decode cX0_greatestGroup 50 = .ok (.ifCond .lt 36, 3) := by decide +kernel
theorem dX0_greatestGroup_53 : decode cX0_greatestGroup 53 = .ok (.iload 4, 2) := by decide +kernel
theorem dX0_greatestGroup_55 : decode cX0_greatestGroup 55 = .ok (.aload_n 0, 1) := by decide +kernel
theorem dX0_greatestGroup_56 : decode cX0_greatestGroup 56 = .ok (.getfield 15, 3) := by decide +kernel
theorem dX0_greatestGroup_59 : decode cX0_greatestGroup 59 = .ok (.arraylength, 1) := by decide +kernel
theorem dX0_greatestGroup_60 : decode cX0_greatestGroup 60 = .ok (.if_icmp .ge 26, 3) := by decide +kernel
theorem dX0_greatestGroup_63 : decode cX0_greatestGroup 63 = .ok (.aload_n 0, 1) := by decide +kernel
theorem dX0_greatestGroup_64 : decode cX0_greatestGroup 64 = .ok (.getfield 15, 3) := by decide +kernel
theorem dX0_greatestGroup_67 : decode cX0_greatestGroup 67 = .ok (.iload 4, 2) := by decide +kernel
theorem dX0_greatestGroup_69 : decode cX0_greatestGroup 69 = .ok (.dup2, 1) := by decide +kernel
theorem dX0_greatestGroup_70 : decode cX0_greatestGroup 70 = .ok (.iaload, 1) := by decide +kernel
theorem dX0_greatestGroup_71 : decode cX0_greatestGroup 71 = .ok (.iconst 1, 1) := by decide +kernel
theorem dX0_greatestGroup_72 : decode cX0_greatestGroup 72 = .ok (.iadd, 1) := by decide +kernel
theorem dX0_greatestGroup_73 : decode cX0_greatestGroup 73 = .ok (.iastore, 1) := by decide +kernel
theorem dX0_greatestGroup_74 : decode cX0_greatestGroup 74 = .ok (.iload_n 2, 1) := by decide +kernel
theorem dX0_greatestGroup_75 : decode cX0_greatestGroup 75 = .ok (.aload_n 0, 1) := by decide +kernel
theorem dX0_greatestGroup_76 : decode cX0_greatestGroup 76 = .ok (.getfield 15, 3) := by decide +kernel
theorem dX0_greatestGroup_79 : decode cX0_greatestGroup 79 = .ok (.iload 4, 2) := by decide +kernel
theorem dX0_greatestGroup_81 : decode cX0_greatestGroup 81 = .ok (.iaload, 1) := by decide +kernel
theorem dX0_greatestGroup_82 : decode cX0_greatestGroup 82 = .ok (.invokestatic 77, 3) := by decide +kernel
theorem dX0_greatestGroup_85 : decode cX0_greatestGroup 85 = .ok (.istore_n 2, 1) := by decide +kernel
theorem dX0_greatestGroup_86 : decode cX0_greatestGroup 86 = .ok (.iinc 3 1, 3) := by decide +kernel
theorem dX0_greatestGroup_89 : decode cX0_greatestGroup 89 = .ok (.goto (-77), 3) := by decide +kernel
theorem dX0_greatestGroup_92 : decode cX0_greatestGroup 92 = .ok (.iload_n 2, 1) := by decide +kernel
theorem dX0_greatestGroup_93 : decode cX0_greatestGroup 93 = .ok (.ireturn, 1) := by decide +kernel
theorem dX1_init_0 : decode cX1_init 0 = .ok (.aload_n 0, 1) := by decide +kernel
theorem dX1_init_1 : decode cX1_init 1 = .ok (.invokespecial 3, 3) := by decide +kernel
theorem dX1_init_4 : decode cX1_init 4 = .ok (.aload_n 0, 1) := by decide +kernel
theorem dX1_init_5 : decode cX1_init 5 = .ok (.bipush 6, 2) := by decide +kernel
theorem dX1_init_7 : decode cX1_init 7 = .ok (.newarray .int, 2) := by decide +kernel
theorem dX1_init_9 : decode cX1_init 9 = .ok (.putfield 9, 3) := by decide +kernel
theorem dX1_init_12 : decode cX1_init 12 = .ok (.aload_n 0, 1) := by decide +kernel
theorem dX1_init_13 : decode cX1_init 13 = .ok (.bipush 6, 2) := by decide +kernel
theorem dX1_init_15 : decode cX1_init 15 = .ok (.newarray .int, 2) := by decide +kernel
theorem dX1_init_17 : decode cX1_init 17 = .ok (.putfield 15, 3) := by decide +kernel
theorem dX1_init_20 : decode cX1_init 20 = .ok (.aload_n 0, 1) := by decide +kernel
theorem dX1_init_21 : decode cX1_init 21 = .ok (.bipush 8, 2) := by decide +kernel
theorem dX1_init_23 : decode cX1_init 23 = .ok (.newarray .int, 2) := by decide +kernel
theorem dX1_init_25 : decode cX1_init 25 = .ok (.putfield 18, 3) := by decide +kernel
theorem dX1_init_28 : decode cX1_init 28 = .ok (.aload_n 0, 1) := by decide +kernel
theorem dX1_init_29 : decode cX1_init 29 = .ok (.bipush 8, 2) := by decide +kernel
theorem dX1_init_31 : decode cX1_init 31 = .ok (.newarray .int, 2) := by decide +kernel
theorem dX1_init_33 : decode cX1_init 33 = .ok (.putfield 21, 3) := by decide +kernel
theorem dX1_init_36 : decode cX1_init 36 = .ok (.aload_n 0, 1) := by decide +kernel
theorem dX1_init_37 : decode cX1_init 37 = .ok (.bipush 12, 2) := by decide +kernel
theorem dX1_init_39 : decode cX1_init 39 = .ok (.newarray .int, 2) := by decide +kernel
theorem dX1_init_41 : decode cX1_init 41 = .ok (.putfield 24, 3) := by decide +kernel
theorem dX1_init_44 : decode cX1_init 44 = .ok (.aload_n 0, 1) := by decide +kernel
theorem dX1_init_45 : decode cX1_init 45 = .ok (.bipush 12, 2) := by decide +kernel
theorem dX1_init_47 : decode cX1_init 47 = .ok (.newarray .int, 2) := by decide +kernel
theorem dX1_init_49 : decode cX1_init 49 = .ok (.putfield 27, 3) := by decide +kernel
theorem dX1_init_52 : decode cX1_init 52 = .ok (.aload_n 0, 1) := by decide +kernel
theorem dX1_init_53 : decode cX1_init 53 = .ok (.bipush 12, 2) := by decide +kernel
theorem dX1_init_55 : decode cX1_init 55 = .ok (.newarray .int, 2) := by decide +kernel
theorem dX1_init_57 : decode cX1_init 57 = .ok (.putfield 30, 3) := by decide +kernel
theorem dX1_init_60 : decode cX1_init 60 = .ok (.aload_n 0, 1) := by decide +kernel
theorem dX1_init_61 : decode cX1_init 61 = .ok (.bipush 8, 2) := by decide +kernel
theorem dX1_init_63 : decode cX1_init 63 = .ok (.newarray .int, 2) := by decide +kernel
theorem dX1_init_65 : decode cX1_init 65 = .ok (.putfield 33, 3) := by decide +kernel
theorem dX1_init_68 : decode cX1_init 68 = .ok (.aload_n 0, 1) := by decide +kernel
theorem dX1_init_69 : decode cX1_init 69 = .ok (.bipush 12, 2) := by decide +kernel
theorem dX1_init_71 : decode cX1_init 71 = .ok (.newarray .int, 2) := by decide +kernel
theorem dX1_init_73 : decode cX1_init 73 = .ok (.putfield 36, 3) := by decide +kernel
theorem dX1_init_76 : decode cX1_init 76 = .ok (.aload_n 0, 1) := by decide +kernel
theorem dX1_init_77 : decode cX1_init 77 = .ok (.bipush 12, 2) := by decide +kernel
theorem dX1_init_79 : decode cX1_init 79 = .ok (.newarray .int, 2) := by decide +kernel
theorem dX1_init_81 : decode cX1_init 81 = .ok (.putfield 39, 3) := by decide +kernel
theorem dX1_init_84 : decode cX1_init 84 = .ok (.return_, 1) := by decide +kernel
theorem dX1_hasShip_0 : decode cX1_hasShip 0 = .ok (.iload_n 1, 1) := by decide +kernel
theorem dX1_hasShip_1 : decode cX1_hasShip 1 = .ok (.ifCond .lt 15, 3) := by decide +kernel
theorem dX1_hasShip_4 : decode cX1_hasShip 4 = .ok (.iload_n 1, 1) := by decide +kernel
theorem dX1_hasShip_5 : decode cX1_hasShip 5 = .ok (.aload_n 0, 1) := by decide +kernel
theorem dX1_hasShip_6 : decode cX1_hasShip 6 = .ok (.getfield 42, 3) := by decide +kernel
theorem dX1_hasShip_9 : decode cX1_hasShip 9 = .ok (.if_icmp .ge 7, 3) := by decide +kernel
theorem dX1_hasShip_12 : decode cX1_hasShip 12 = .ok (.iconst 1, 1) := by decide +kernel
theorem dX1_hasShip_13 : decode cX1_hasShip 13 = .ok (.goto 4, 3) := by decide +kernel
theorem dX1_hasShip_16 : decode cX1_hasShip 16 = .ok (.iconst 0, 1) := by decide +kernel
theorem dX1_hasShip_17 : decode cX1_hasShip 17 = .ok (.ireturn, 1) := by decide +kernel
theorem dX1_hasName_0 : decode cX1_hasName 0 = .ok (.iload_n 1, 1) := by decide +kernel
theorem dX1_hasName_1 : decode cX1_hasName 1 = .ok (.ifCond .lt 15, 3) := by decide +kernel
theorem dX1_hasName_4 : decode cX1_hasName 4 = .ok (.iload_n 1, 1) := by decide +kernel
theorem dX1_hasName_5 : decode cX1_hasName 5 = .ok (.aload_n 0, 1) := by decide +kernel
theorem dX1_hasName_6 : decode cX1_hasName 6 = .ok (.getfield 46, 3) := by decide +kernel
theorem dX1_hasName_9 : decode cX1_hasName 9 = .ok (.if_icmp .ge 7, 3) := by decide +kernel
theorem dX1_hasName_12 : decode cX1_hasName 12 = .ok (.iconst 1, 1) := by decide +kernel
theorem dX1_hasName_13 : decode cX1_hasName 13 = .ok (.goto 4, 3) := by decide +kernel
theorem dX1_hasName_16 : decode cX1_hasName 16 = .ok (.iconst 0, 1) := by decide +kernel
theorem dX1_hasName_17 : decode cX1_hasName 17 = .ok (.ireturn, 1) := by decide +kernel
theorem dX1_hasLine_0 : decode cX1_hasLine 0 = .ok (.iload_n 1, 1) := by decide +kernel
theorem dX1_hasLine_1 : decode cX1_hasLine 1 = .ok (.ifCond .lt 15, 3) := by decide +kernel
theorem dX1_hasLine_4 : decode cX1_hasLine 4 = .ok (.iload_n 1, 1) := by decide +kernel
theorem dX1_hasLine_5 : decode cX1_hasLine 5 = .ok (.aload_n 0, 1) := by decide +kernel
theorem dX1_hasLine_6 : decode cX1_hasLine 6 = .ok (.getfield 49, 3) := by decide +kernel
theorem dX1_hasLine_9 : decode cX1_hasLine 9 = .ok (.if_icmp .ge 7, 3) := by decide +kernel
theorem dX1_hasLine_12 : decode cX1_hasLine 12 = .ok (.iconst 1, 1) := by decide +kernel
theorem dX1_hasLine_13 : decode cX1_hasLine 13 = .ok (.goto 4, 3) := by decide +kernel
theorem dX1_hasLine_16 : decode cX1_hasLine 16 = .ok (.iconst 0, 1) := by decide +kernel
theorem dX1_hasLine_17 : decode cX1_hasLine 17 = .ok (.ireturn, 1) := by decide +kernel
theorem dX1_isDrowned_0 : decode cX1_isDrowned 0 = .ok (.aload_n 0, 1) := by decide +kernel
theorem dX1_isDrowned_1 : decode cX1_isDrowned 1 = .ok (.getfield 52, 3) := by decide +kernel
theorem dX1_isDrowned_4 : decode cX1_isDrowned 4 = .ok (.iload_n 1, 1) := by decide +kernel
theorem dX1_isDrowned_5 : decode cX1_isDrowned 5 = .ok (.ishr, 1) := by decide +kernel
theorem dX1_isDrowned_6 : decode cX1_isDrowned 6 = .ok (.iconst 1, 1) := by decide +kernel
theorem dX1_isDrowned_7 : decode cX1_isDrowned 7 = .ok (.iand, 1) := by decide +kernel
theorem dX1_isDrowned_8 : decode cX1_isDrowned 8 = .ok (.iconst 1, 1) := by decide +kernel
theorem dX1_isDrowned_9 : decode cX1_isDrowned 9 = .ok (.if_icmp .ne 7, 3) := by decide +kernel
theorem dX1_isDrowned_12 : decode cX1_isDrowned 12 = .ok (.iconst 1, 1) := by decide +kernel
theorem dX1_isDrowned_13 : decode cX1_isDrowned 13 = .ok (.goto 4, 3) := by decide +kernel
theorem dX1_isDrowned_16 : decode cX1_isDrowned 16 = .ok (.iconst 0, 1) := by decide +kernel
theorem dX1_isDrowned_17 : decode cX1_isDrowned 17 = .ok (.ireturn, 1) := by decide +kernel
theorem dX1_settleShips_0 : decode cX1_settleShips 0 = .ok (.aload_n 0, 1) := by decide +kernel
theorem dX1_settleShips_1 : decode cX1_settleShips 1 = .ok (.aload_n 1, 1) := by decide +kernel
theorem dX1_settleShips_2 : decode cX1_settleShips 2 = .ok (.invokevirtual 55, 3) := by decide +kernel
theorem dX1_settleShips_5 : decode cX1_settleShips 5 = .ok (.bipush 6, 2) := by decide +kernel
theorem dX1_settleShips_7 : decode cX1_settleShips 7 = .ok (.invokestatic 61, 3) := by decide +kernel
theorem dX1_settleShips_10 : decode cX1_settleShips 10 = .ok (.putfield 42, 3) := by decide +kernel
theorem dX1_settleShips_13 : decode cX1_settleShips 13 = .ok (.iconst 0, 1) := by decide +kernel
theorem dX1_settleShips_14 : decode cX1_settleShips 14 = .ok (.istore_n 2, 1) := by decide +kernel
theorem dX1_settleShips_15 : decode cX1_settleShips 15 = .ok (.iload_n 2, 1) := by decide +kernel
theorem dX1_settleShips_16 : decode cX1_settleShips 16 = .ok (.aload_n 0, 1) := by decide +kernel
theorem dX1_settleShips_17 : decode cX1_settleShips 17 = .ok (.getfield 42, 3) := by decide +kernel
theorem dX1_settleShips_20 : decode cX1_settleShips 20 = .ok (.if_icmp .ge 40, 3) := by decide +kernel
theorem dX1_settleShips_23 : decode cX1_settleShips 23 = .ok (.iload_n 2, 1) := by decide +kernel
theorem dX1_settleShips_24 : decode cX1_settleShips 24 = .ok (.aload_n 1, 1) := by decide +kernel
theorem dX1_settleShips_25 : decode cX1_settleShips 25 = .ok (.getfield 67, 3) := by decide +kernel
theorem dX1_settleShips_28 : decode cX1_settleShips 28 = .ok (.imul, 1) := by decide +kernel
theorem dX1_settleShips_29 : decode cX1_settleShips 29 = .ok (.istore_n 3, 1) := by decide +kernel
theorem dX1_settleShips_30 : decode cX1_settleShips 30 = .ok (.aload_n 0, 1) := by decide +kernel
theorem dX1_settleShips_31 : decode cX1_settleShips 31 = .ok (.getfield 9, 3) := by decide +kernel
theorem dX1_settleShips_34 : decode cX1_settleShips 34 = .ok (.iload_n 2, 1) := by decide +kernel
theorem dX1_settleShips_35 : decode cX1_settleShips 35 = .ok (.aload_n 1, 1) := by decide +kernel
theorem dX1_settleShips_36 : decode cX1_settleShips 36 = .ok (.iload_n 3, 1) := by decide +kernel
theorem dX1_settleShips_37 : decode cX1_settleShips 37 = .ok (.invokevirtual 70, 3) := by decide +kernel
theorem dX1_settleShips_40 : decode cX1_settleShips 40 = .ok (.iastore, 1) := by decide +kernel
theorem dX1_settleShips_41 : decode cX1_settleShips 41 = .ok (.aload_n 0, 1) := by decide +kernel
theorem dX1_settleShips_42 : decode cX1_settleShips 42 = .ok (.getfield 15, 3) := by decide +kernel
theorem dX1_settleShips_45 : decode cX1_settleShips 45 = .ok (.iload_n 2, 1) := by decide +kernel
theorem dX1_settleShips_46 : decode cX1_settleShips 46 = .ok (.aload_n 1, 1) := by decide +kernel
theorem dX1_settleShips_47 : decode cX1_settleShips 47 = .ok (.iload_n 3, 1) := by decide +kernel
theorem dX1_settleShips_48 : decode cX1_settleShips 48 = .ok (.iconst 2, 1) := by decide +kernel
theorem dX1_settleShips_49 : decode cX1_settleShips 49 = .ok (.iadd, 1) := by decide +kernel
theorem dX1_settleShips_50 : decode cX1_settleShips 50 = .ok (.invokevirtual 74, 3) := by decide +kernel
theorem dX1_settleShips_53 : decode cX1_settleShips 53 = .ok (.iastore, 1) := by decide +kernel
theorem dX1_settleShips_54 : decode cX1_settleShips 54 = .ok (.iinc 2 1, 3) := by decide +kernel
theorem dX1_settleShips_57 : decode cX1_settleShips 57 = .ok (.goto (-42), 3) := by decide +kernel
theorem dX1_settleShips_60 : decode cX1_settleShips 60 = .ok (.return_, 1) := by decide +kernel
theorem dX1_settleNames_0 : decode cX1_settleNames 0 = .ok (.aload_n 0, 1) := by decide +kernel
theorem dX1_settleNames_1 : decode cX1_settleNames 1 = .ok (.aload_n 1, 1) := by decide +kernel
theorem dX1_settleNames_2 : decode cX1_settleNames 2 = .ok (.invokevirtual 55, 3) := by decide +kernel
theorem dX1_settleNames_5 : decode cX1_settleNames 5 = .ok (.bipush 8, 2) := by decide +kernel
theorem dX1_settleNames_7 : decode cX1_settleNames 7 = .ok (.invokestatic 61, 3) := by decide +kernel
theorem dX1_settleNames_10 : decode cX1_settleNames 10 = .ok (.putfield 46, 3) := by decide +kernel
theorem dX1_settleNames_13 : decode cX1_settleNames 13 = .ok (.aload_n 0, 1) := by decide +kernel
theorem dX1_settleNames_14 : decode cX1_settleNames 14 = .ok (.iconst 0, 1) := by decide +kernel
theorem dX1_settleNames_15 : decode cX1_settleNames 15 = .ok (.putfield 52, 3) := by decide +kernel
theorem dX1_settleNames_18 : decode cX1_settleNames 18 = .ok (.iconst 0, 1) := by decide +kernel
theorem dX1_settleNames_19 : decode cX1_settleNames 19 = .ok (.istore_n 2, 1) := by decide +kernel
theorem dX1_settleNames_20 : decode cX1_settleNames 20 = .ok (.iload_n 2, 1) := by decide +kernel
theorem dX1_settleNames_21 : decode cX1_settleNames 21 = .ok (.aload_n 0, 1) := by decide +kernel
theorem dX1_settleNames_22 : decode cX1_settleNames 22 = .ok (.getfield 46, 3) := by decide +kernel
theorem dX1_settleNames_25 : decode cX1_settleNames 25 = .ok (.if_icmp .ge 86, 3) := by decide +kernel
theorem dX1_settleNames_28 : decode cX1_settleNames 28 = .ok (.iload_n 2, 1) := by decide +kernel
theorem dX1_settleNames_29 : decode cX1_settleNames 29 = .ok (.aload_n 1, 1) := by decide +kernel
theorem dX1_settleNames_30 : decode cX1_settleNames 30 = .ok (.getfield 67, 3) := by decide +kernel
theorem dX1_settleNames_33 : decode cX1_settleNames 33 = .ok (.imul, 1) := by decide +kernel
theorem dX1_settleNames_34 : decode cX1_settleNames 34 = .ok (.istore_n 3, 1) := by decide +kernel
theorem dX1_settleNames_35 : decode cX1_settleNames 35 = .ok (.aload_n 0, 1) := by decide +kernel
theorem dX1_settleNames_36 : decode cX1_settleNames 36 = .ok (.getfield 18, 3) := by decide +kernel
theorem dX1_settleNames_39 : decode cX1_settleNames 39 = .ok (.iload_n 2, 1) := by decide +kernel
theorem dX1_settleNames_40 : decode cX1_settleNames 40 = .ok (.aload_n 1, 1) := by decide +kernel
theorem dX1_settleNames_41 : decode cX1_settleNames 41 = .ok (.iload_n 3, 1) := by decide +kernel
theorem dX1_settleNames_42 : decode cX1_settleNames 42 = .ok (.invokevirtual 70, 3) := by decide +kernel
theorem dX1_settleNames_45 : decode cX1_settleNames 45 = .ok (.iastore, 1) := by decide +kernel
theorem dX1_settleNames_46 : decode cX1_settleNames 46 = .ok (.aload_n 0, 1) := by decide +kernel
theorem dX1_settleNames_47 : decode cX1_settleNames 47 = .ok (.dup, 1) := by decide +kernel
theorem dX1_settleNames_48 : decode cX1_settleNames 48 = .ok (.getfield 52, 3) := by decide +kernel
theorem dX1_settleNames_51 : decode cX1_settleNames 51 = .ok (.aload_n 1, 1) := by decide +kernel
theorem dX1_settleNames_52 : decode cX1_settleNames 52 = .ok (.iload_n 3, 1) := by decide +kernel
theorem dX1_settleNames_53 : decode cX1_settleNames 53 = .ok (.iconst 2, 1) := by decide +kernel
theorem dX1_settleNames_54 : decode cX1_settleNames 54 = .ok (.iadd, 1) := by decide +kernel
theorem dX1_settleNames_55 : decode cX1_settleNames 55 = .ok (.invokevirtual 77, 3) := by decide +kernel
theorem dX1_settleNames_58 : decode cX1_settleNames 58 = .ok (.bipush 100, 2) := by decide +kernel
theorem dX1_settleNames_60 : decode cX1_settleNames 60 = .ok (.if_icmp .ne 9, 3) := by decide +kernel
theorem dX1_settleNames_63 : decode cX1_settleNames 63 = .ok (.iconst 1, 1) := by decide +kernel
theorem dX1_settleNames_64 : decode cX1_settleNames 64 = .ok (.iload_n 2, 1) := by decide +kernel
theorem dX1_settleNames_65 : decode cX1_settleNames 65 = .ok (.ishl, 1) := by decide +kernel
theorem dX1_settleNames_66 : decode cX1_settleNames 66 = .ok (.goto 4, 3) := by decide +kernel
theorem dX1_settleNames_69 : decode cX1_settleNames 69 = .ok (.iconst 0, 1) := by decide +kernel
theorem dX1_settleNames_70 : decode cX1_settleNames 70 = .ok (.ior, 1) := by decide +kernel
theorem dX1_settleNames_71 : decode cX1_settleNames 71 = .ok (.putfield 52, 3) := by decide +kernel
theorem dX1_settleNames_74 : decode cX1_settleNames 74 = .ok (.aload_n 1, 1) := by decide +kernel
theorem dX1_settleNames_75 : decode cX1_settleNames 75 = .ok (.iload_n 3, 1) := by decide +kernel
theorem dX1_settleNames_76 : decode cX1_settleNames 76 = .ok (.iconst 3, 1) := by decide +kernel
theorem dX1_settleNames_77 : decode cX1_settleNames 77 = .ok (.iadd, 1) := by decide +kernel
theorem dX1_settleNames_78 : decode cX1_settleNames 78 = .ok (.invokevirtual 77, 3) := by decide +kernel
theorem dX1_settleNames_81 : decode cX1_settleNames 81 = .ok (.istore 4, 2) := by decide +kernel
theorem dX1_settleNames_83 : decode cX1_settleNames 83 = .ok (.aload_n 0, 1) := by decide +kernel
theorem dX1_settleNames_84 : decode cX1_settleNames 84 = .ok (.getfield 21, 3) := by decide +kernel
theorem dX1_settleNames_87 : decode cX1_settleNames 87 = .ok (.iload_n 2, 1) := by decide +kernel
theorem dX1_settleNames_88 : decode cX1_settleNames 88 = .ok (.iload 4, 2) := by decide +kernel
theorem dX1_settleNames_90 : decode cX1_settleNames 90 = .ok (.bipush 46, 2) := by decide +kernel
theorem dX1_settleNames_92 : decode cX1_settleNames 92 = .ok (.if_icmp .ne 7, 3) := by decide +kernel
theorem dX1_settleNames_95 : decode cX1_settleNames 95 = .ok (.iconst (-1), 1) := by decide +kernel
theorem dX1_settleNames_96 : decode cX1_settleNames 96 = .ok (.goto 8, 3) := by decide +kernel
theorem dX1_settleNames_99 : decode cX1_settleNames 99 = .ok (.iload 4, 2) := by decide +kernel
theorem dX1_settleNames_101 : decode cX1_settleNames 101 = .ok (.bipush 97, 2) := by decide +kernel
theorem dX1_settleNames_103 : decode cX1_settleNames 103 = .ok (.isub, 1) := by decide +kernel
theorem dX1_settleNames_104 : decode cX1_settleNames 104 = .ok (.iastore, 1) := by decide +kernel
theorem dX1_settleNames_105 : decode cX1_settleNames 105 = .ok (.iinc 2 1, 3) := by decide +kernel
theorem dX1_settleNames_108 : decode cX1_settleNames 108 = .ok (.goto (-88), 3) := by decide +kernel
theorem dX1_settleNames_111 : decode cX1_settleNames 111 = .ok (.return_, 1) := by decide +kernel
theorem dX1_settleLines_0 : decode cX1_settleLines 0 = .ok (.aload_n 0, 1) := by decide +kernel
theorem dX1_settleLines_1 : decode cX1_settleLines 1 = .ok (.aload_n 1, 1) := by decide +kernel
theorem dX1_settleLines_2 : decode cX1_settleLines 2 = .ok (.invokevirtual 55, 3) := by decide +kernel
theorem dX1_settleLines_5 : decode cX1_settleLines 5 = .ok (.bipush 12, 2) := by decide +kernel
theorem dX1_settleLines_7 : decode cX1_settleLines 7 = .ok (.invokestatic 61, 3) := by decide +kernel
theorem dX1_settleLines_10 : decode cX1_settleLines 10 = .ok (.putfield 49, 3) := by decide +kernel
theorem dX1_settleLines_13 : decode cX1_settleLines 13 = .ok (.iconst 0, 1) := by decide +kernel
theorem dX1_settleLines_14 : decode cX1_settleLines 14 = .ok (.istore_n 2, 1) := by decide +kernel
theorem dX1_settleLines_15 : decode cX1_settleLines 15 = .ok (.iload_n 2, 1) := by decide +kernel
theorem dX1_settleLines_16 : decode cX1_settleLines 16 = .ok (.aload_n 0, 1) := by decide +kernel
theorem dX1_settleLines_17 : decode cX1_settleLines 17 = .ok (.getfield 49, 3) := by decide +kernel
theorem dX1_settleLines_20 : decode cX1_settleLines 20 = .ok (.if_icmp .ge 56, 3) := by decide +kernel
theorem dX1_settleLines_23 : decode cX1_settleLines 23 = .ok (.iload_n 2, 1) := by decide +kernel
theorem dX1_settleLines_24 : decode cX1_settleLines 24 = .ok (.aload_n 1, 1) := by decide +kernel
theorem dX1_settleLines_25 : decode cX1_settleLines 25 = .ok (.getfield 67, 3) := by decide +kernel
theorem dX1_settleLines_28 : decode cX1_settleLines 28 = .ok (.imul, 1) := by decide +kernel
theorem dX1_settleLines_29 : decode cX1_settleLines 29 = .ok (.istore_n 3, 1) := by decide +kernel
theorem dX1_settleLines_30 : decode cX1_settleLines 30 = .ok (.aload_n 0, 1) := by decide +kernel
theorem dX1_settleLines_31 : decode cX1_settleLines 31 = .ok (.getfield 24, 3) := by decide +kernel
theorem dX1_settleLines_34 : decode cX1_settleLines 34 = .ok (.iload_n 2, 1) := by decide +kernel
theorem dX1_settleLines_35 : decode cX1_settleLines 35 = .ok (.aload_n 1, 1) := by decide +kernel
theorem dX1_settleLines_36 : decode cX1_settleLines 36 = .ok (.iload_n 3, 1) := by decide +kernel
theorem dX1_settleLines_37 : decode cX1_settleLines 37 = .ok (.invokevirtual 74, 3) := by decide +kernel
theorem dX1_settleLines_40 : decode cX1_settleLines 40 = .ok (.iastore, 1) := by decide +kernel
theorem dX1_settleLines_41 : decode cX1_settleLines 41 = .ok (.aload_n 0, 1) := by decide +kernel
theorem dX1_settleLines_42 : decode cX1_settleLines 42 = .ok (.getfield 27, 3) := by decide +kernel
theorem dX1_settleLines_45 : decode cX1_settleLines 45 = .ok (.iload_n 2, 1) := by decide +kernel
theorem dX1_settleLines_46 : decode cX1_settleLines 46 = .ok (.aload_n 1, 1) := by decide +kernel
theorem dX1_settleLines_47 : decode cX1_settleLines 47 = .ok (.iload_n 3, 1) := by decide +kernel
theorem dX1_settleLines_48 : decode cX1_settleLines 48 = .ok (.iconst 1, 1) := by decide +kernel
theorem dX1_settleLines_49 : decode cX1_settleLines 49 = .ok (.iadd, 1) := by decide +kernel
theorem dX1_settleLines_50 : decode cX1_settleLines 50 = .ok (.invokevirtual 77, 3) := by decide +kernel
theorem dX1_settleLines_53 : decode cX1_settleLines 53 = .ok (.bipush 97, 2) := by decide +kernel
theorem dX1_settleLines_55 : decode cX1_settleLines 55 = .ok (.isub, 1) := by decide +kernel
theorem dX1_settleLines_56 : decode cX1_settleLines 56 = .ok (.iastore, 1) := by decide +kernel
theorem dX1_settleLines_57 : decode cX1_settleLines 57 = .ok (.aload_n 0, 1) := by decide +kernel
theorem dX1_settleLines_58 : decode cX1_settleLines 58 = .ok (.getfield 30, 3) := by decide +kernel
theorem dX1_settleLines_61 : decode cX1_settleLines 61 = .ok (.iload_n 2, 1) := by decide +kernel
theorem dX1_settleLines_62 : decode cX1_settleLines 62 = .ok (.aload_n 1, 1) := by decide +kernel
theorem dX1_settleLines_63 : decode cX1_settleLines 63 = .ok (.iload_n 3, 1) := by decide +kernel
theorem dX1_settleLines_64 : decode cX1_settleLines 64 = .ok (.iconst 2, 1) := by decide +kernel
theorem dX1_settleLines_65 : decode cX1_settleLines 65 = .ok (.iadd, 1) := by decide +kernel
theorem dX1_settleLines_66 : decode cX1_settleLines 66 = .ok (.invokevirtual 70, 3) := by decide +kernel
theorem dX1_settleLines_69 : decode cX1_settleLines 69 = .ok (.iastore, 1) := by decide +kernel
theorem dX1_settleLines_70 : decode cX1_settleLines 70 = .ok (.iinc 2 1, 3) := by decide +kernel
theorem dX1_settleLines_73 : decode cX1_settleLines 73 = .ok (.goto (-58), 3) := by decide +kernel
theorem dX1_settleLines_76 : decode cX1_settleLines 76 = .ok (.return_, 1) := by decide +kernel
theorem dX1_strikeOut_0 : decode cX1_strikeOut 0 = .ok (.iconst 0, 1) := by decide +kernel
theorem dX1_strikeOut_1 : decode cX1_strikeOut 1 = .ok (.istore_n 2, 1) := by decide +kernel
theorem dX1_strikeOut_2 : decode cX1_strikeOut 2 = .ok (.iload_n 2, 1) := by decide +kernel
theorem dX1_strikeOut_3 : decode cX1_strikeOut 3 = .ok (.aload_n 0, 1) := by decide +kernel
theorem dX1_strikeOut_4 : decode cX1_strikeOut 4 = .ok (.getfield 46, 3) := by decide +kernel
theorem dX1_strikeOut_7 : decode cX1_strikeOut 7 = .ok (.if_icmp .ge 21, 3) := by decide +kernel
theorem dX1_strikeOut_10 : decode cX1_strikeOut 10 = .ok (.aload_n 0, 1) := by decide +kernel
theorem dX1_strikeOut_11 : decode cX1_strikeOut 11 = .ok (.getfield 33, 3) := by decide +kernel
theorem dX1_strikeOut_14 : decode cX1_strikeOut 14 = .ok (.iload_n 2, 1) := by decide +kernel
theorem dX1_strikeOut_15 : decode cX1_strikeOut 15 = .ok (.aload_n 0, 1) := by decide +kernel
theorem dX1_strikeOut_16 : decode cX1_strikeOut 16 = .ok (.iload_n 2, 1) := by decide +kernel
theorem dX1_strikeOut_17 : decode cX1_strikeOut 17 = .ok (.iload_n 1, 1) := by decide +kernel
theorem dX1_strikeOut_18 : decode cX1_strikeOut 18 = .ok (.invokevirtual 80, 3) := by decide +kernel
theorem dX1_strikeOut_21 : decode cX1_strikeOut 21 = .ok (.iastore, 1) := by decide +kernel
theorem dX1_strikeOut_22 : decode cX1_strikeOut 22 = .ok (.iinc 2 1, 3) := by decide +kernel
theorem dX1_strikeOut_25 : decode cX1_strikeOut 25 = .ok (.goto (-23), 3) := by decide +kernel
theorem dX1_strikeOut_28 : decode cX1_strikeOut 28 = .ok (.iconst 0, 1) := by decide +kernel
theorem dX1_strikeOut_29 : decode cX1_strikeOut 29 = .ok (.istore_n 2, 1) := by decide +kernel
theorem dX1_strikeOut_30 : decode cX1_strikeOut 30 = .ok (.iload_n 2, 1) := by decide +kernel
theorem dX1_strikeOut_31 : decode cX1_strikeOut 31 = .ok (.aload_n 0, 1) := by decide +kernel
theorem dX1_strikeOut_32 : decode cX1_strikeOut 32 = .ok (.getfield 49, 3) := by decide +kernel
theorem dX1_strikeOut_35 : decode cX1_strikeOut 35 = .ok (.if_icmp .ge 61, 3) := by decide +kernel
theorem dX1_strikeOut_38 : decode cX1_strikeOut 38 = .ok (.aload_n 0, 1) := by decide +kernel
theorem dX1_strikeOut_39 : decode cX1_strikeOut 39 = .ok (.iload_n 2, 1) := by decide +kernel
theorem dX1_strikeOut_40 : decode cX1_strikeOut 40 = .ok (.iload_n 1, 1) := by decide +kernel
theorem dX1_strikeOut_41 : decode cX1_strikeOut 41 = .ok (.invokevirtual 83, 3) := by decide +kernel
theorem dX1_strikeOut_44 : decode cX1_strikeOut 44 = .ok (.istore_n 3, 1) := by decide +kernel
theorem dX1_strikeOut_45 : decode cX1_strikeOut 45 = .ok (.aload_n 0, 1) := by decide +kernel
theorem dX1_strikeOut_46 : decode cX1_strikeOut 46 = .ok (.getfield 36, 3) := by decide +kernel
theorem dX1_strikeOut_49 : decode cX1_strikeOut 49 = .ok (.iload_n 2, 1) := by decide +kernel
theorem dX1_strikeOut_50 : decode cX1_strikeOut 50 = .ok (.iload_n 3, 1) := by decide +kernel
theorem dX1_strikeOut_51 : decode cX1_strikeOut 51 = .ok (.ifCond .eq 7, 3) := by decide +kernel
theorem dX1_strikeOut_54 : decode cX1_strikeOut 54 = .ok (.iconst 0, 1) := by decide +kernel
theorem dX1_strikeOut_55 : decode cX1_strikeOut 55 = .ok (.goto 9, 3) := by decide +kernel
theorem dX1_strikeOut_58 : decode cX1_strikeOut 58 = .ok (.aload_n 0, 1) := by decide +kernel
theorem dX1_strikeOut_59 : decode cX1_strikeOut 59 = .ok (.iload_n 2, 1) := by decide +kernel
theorem dX1_strikeOut_60 : decode cX1_strikeOut 60 = .ok (.iload_n 1, 1) := by decide +kernel
theorem dX1_strikeOut_61 : decode cX1_strikeOut 61 = .ok (.invokevirtual 87, 3) := by decide +kernel
theorem dX1_strikeOut_64 : decode cX1_strikeOut 64 = .ok (.iastore, 1) := by decide +kernel
theorem dX1_strikeOut_65 : decode cX1_strikeOut 65 = .ok (.aload_n 0, 1) := by decide +kernel
theorem dX1_strikeOut_66 : decode cX1_strikeOut 66 = .ok (.getfield 39, 3) := by decide +kernel
theorem dX1_strikeOut_69 : decode cX1_strikeOut 69 = .ok (.iload_n 2, 1) := by decide +kernel
theorem dX1_strikeOut_70 : decode cX1_strikeOut 70 = .ok (.iload_n 3, 1) := by decide +kernel
theorem dX1_strikeOut_71 : decode cX1_strikeOut 71 = .ok (.ifCond .eq 7, 3) := by decide +kernel
theorem dX1_strikeOut_74 : decode cX1_strikeOut 74 = .ok (.iconst (-1), 1) := by decide +kernel
theorem dX1_strikeOut_75 : decode cX1_strikeOut 75 = .ok (.goto 14, 3) := by decide +kernel
theorem dX1_strikeOut_78 : decode cX1_strikeOut 78 = .ok (.aload_n 0, 1) := by decide +kernel
theorem dX1_strikeOut_79 : decode cX1_strikeOut 79 = .ok (.getfield 33, 3) := by decide +kernel
theorem dX1_strikeOut_82 : decode cX1_strikeOut 82 = .ok (.aload_n 0, 1) := by decide +kernel
theorem dX1_strikeOut_83 : decode cX1_strikeOut 83 = .ok (.getfield 27, 3) := by decide +kernel
theorem dX1_strikeOut_86 : decode cX1_strikeOut 86 = .ok (.iload_n 2, 1) := by decide +kernel
theorem dX1_strikeOut_87 : decode cX1_strikeOut 87 = .ok (.iaload, 1) := by decide +kernel
theorem dX1_strikeOut_88 : decode cX1_strikeOut 88 = .ok (.iaload, 1) := by decide +kernel
theorem dX1_strikeOut_89 : decode cX1_strikeOut 89 = .ok (.iastore, 1) := by decide +kernel
theorem dX1_strikeOut_90 : decode cX1_strikeOut 90 = .ok (.iinc 2 1, 3) := by decide +kernel
theorem dX1_strikeOut_93 : decode cX1_strikeOut 93 = .ok (.goto (-63), 3) := by decide +kernel
theorem dX1_strikeOut_96 : decode cX1_strikeOut 96 = .ok (.return_, 1) := by decide +kernel
theorem dX1_bearerOf_0 : decode cX1_bearerOf 0 = .ok (.iload_n 1, 1) := by decide +kernel
theorem dX1_bearerOf_1 : decode cX1_bearerOf 1 = .ok (.istore_n 3, 1) := by decide +kernel
theorem dX1_bearerOf_2 : decode cX1_bearerOf 2 = .ok (.iconst 0, 1) := by decide +kernel
theorem dX1_bearerOf_3 : decode cX1_bearerOf 3 = .ok (.istore 4, 2) := by decide +kernel
theorem dX1_bearerOf_5 : decode cX1_bearerOf 5 = .ok (.iload 4, 2) := by decide +kernel
theorem dX1_bearerOf_7 : decode cX1_bearerOf 7 = .ok (.aload_n 0, 1) := by decide +kernel
theorem dX1_bearerOf_8 : decode cX1_bearerOf 8 = .ok (.getfield 46, 3) := by decide +kernel
theorem dX1_bearerOf_11 : decode cX1_bearerOf 11 = .ok (.if_icmp .ge 47, 3) := by decide +kernel
theorem dX1_bearerOf_14 : decode cX1_bearerOf 14 = .ok (.aload_n 0, 1) := by decide +kernel
theorem dX1_bearerOf_15 : decode cX1_bearerOf 15 = .ok (.getfield 21, 3) := by decide +kernel
theorem dX1_bearerOf_18 : decode cX1_bearerOf 18 = .ok (.iload_n 3, 1) := by decide +kernel
theorem dX1_bearerOf_19 : decode cX1_bearerOf 19 = .ok (.iaload, 1) := by decide +kernel
theorem dX1_bearerOf_20 : decode cX1_bearerOf 20 = .ok (.istore 5, 2) := by decide +kernel
theorem dX1_bearerOf_22 : decode cX1_bearerOf 22 = .ok (.iload 5, 2) := by decide +kernel
theorem dX1_bearerOf_24 : decode cX1_bearerOf 24 = .ok (.iload_n 3, 1) := by decide +kernel
theorem dX1_bearerOf_25 : decode cX1_bearerOf 25 = .ok (.if_icmp .eq 22, 3) := by decide +kernel
theorem dX1_bearerOf_28 : decode cX1_bearerOf 28 = .ok (.aload_n 0, 1) := by decide +kernel
theorem dX1_bearerOf_29 : decode cX1_bearerOf 29 = .ok (.iload 5, 2) := by decide +kernel
theorem dX1_bearerOf_31 : decode cX1_bearerOf 31 = .ok (.invokevirtual 90, 3) := by decide +kernel
theorem dX1_bearerOf_34 : decode cX1_bearerOf 34 = .ok (.ifCond .eq 13, 3) := by decide +kernel
theorem dX1_bearerOf_37 : decode cX1_bearerOf 37 = .ok (.iload_n 2, 1) := by decide +kernel
theorem dX1_bearerOf_38 : decode cX1_bearerOf 38 = .ok (.iload 5, 2) := by decide +kernel
theorem dX1_bearerOf_40 : decode cX1_bearerOf 40 = .ok (.ishr, 1) := by decide +kernel
theorem dX1_bearerOf_41 : decode cX1_bearerOf 41 = .ok (.iconst 1, 1) := by decide +kernel
theorem dX1_bearerOf_42 : decode cX1_bearerOf 42 = .ok (.iand, 1) := by decide +kernel
theorem dX1_bearerOf_43 : decode cX1_bearerOf 43 = .ok (.iconst 1, 1) := by decide +kernel
theorem dX1_bearerOf_44 : decode cX1_bearerOf 44 = .ok (.if_icmp .ne 5, 3) := by decide +kernel
theorem dX1_bearerOf_47 : decode cX1_bearerOf 47 = .ok (.iload_n 3, 1) := by decide +kernel
theorem dX1_bearerOf_48 : decode cX1_bearerOf 48 = .ok (.ireturn, 1) := by decide +kernel
theorem dX1_bearerOf_49 : decode cX1_bearerOf 49 = .ok (.iload 5, 2) := by decide +kernel
theorem dX1_bearerOf_51 : decode cX1_bearerOf 51 = .ok (.istore_n 3, 1) := by decide +kernel
theorem dX1_bearerOf_52 : decode cX1_bearerOf 52 = .ok (.iinc 4 1, 3) := by decide +kernel
theorem dX1_bearerOf_55 : decode cX1_bearerOf 55 = .ok (.goto (-50), 3) := by decide +kernel
theorem dX1_bearerOf_58 : decode cX1_bearerOf 58 = .ok (.iconst (-1), 1) := by decide +kernel
theorem dX1_bearerOf_59 : decode cX1_bearerOf 59 = .ok (.ireturn, 1) := by decide +kernel
theorem dX1_isVoid_0 : decode cX1_isVoid 0 = .ok (.aload_n 0, 1) := by decide +kernel
theorem dX1_isVoid_1 : decode cX1_isVoid 1 = .ok (.getfield 27, 3) := by decide +kernel
theorem dX1_isVoid_4 : decode cX1_isVoid 4 = .ok (.iload_n 1, 1) := by decide +kernel
theorem dX1_isVoid_5 : decode cX1_isVoid 5 = .ok (.iaload, 1) := by decide +kernel
theorem dX1_isVoid_6 : decode cX1_isVoid 6 = .ok (.istore_n 3, 1) := by decide +kernel
theorem dX1_isVoid_7 : decode cX1_isVoid 7 = .ok (.aload_n 0, 1) := by decide +kernel
theorem dX1_isVoid_8 : decode cX1_isVoid 8 = .ok (.aload_n 0, 1) := by decide +kernel
theorem dX1_isVoid_9 : decode cX1_isVoid 9 = .ok (.getfield 24, 3) := by decide +kernel
theorem dX1_isVoid_12 : decode cX1_isVoid 12 = .ok (.iload_n 1, 1) := by decide +kernel
theorem dX1_isVoid_13 : decode cX1_isVoid 13 = .ok (.iaload, 1) := by decide +kernel
theorem dX1_isVoid_14 : decode cX1_isVoid 14 = .ok (.invokevirtual 94, 3) := by decide +kernel
theorem dX1_isVoid_17 : decode cX1_isVoid 17 = .ok (.ifCond .eq 20, 3) := by decide +kernel
theorem dX1_isVoid_20 : decode cX1_isVoid 20 = .ok (.aload_n 0, 1) := by decide +kernel
theorem dX1_isVoid_21 : decode cX1_isVoid 21 = .ok (.iload_n 3, 1) := by decide +kernel
theorem dX1_isVoid_22 : decode cX1_isVoid 22 = .ok (.invokevirtual 90, 3) := by decide +kernel
theorem dX1_isVoid_25 : decode cX1_isVoid 25 = .ok (.ifCond .eq 12, 3) := by decide +kernel
theorem dX1_isVoid_28 : decode cX1_isVoid 28 = .ok (.iload_n 2, 1) := by decide +kernel
theorem dX1_isVoid_29 : decode cX1_isVoid 29 = .ok (.iload_n 3, 1) := by decide +kernel
theorem dX1_isVoid_30 : decode cX1_isVoid 30 = .ok (.ishr, 1) := by decide +kernel
theorem dX1_isVoid_31 : decode cX1_isVoid 31 = .ok (.iconst 1, 1) := by decide +kernel
theorem dX1_isVoid_32 : decode cX1_isVoid 32 = .ok (.iand, 1) := by decide +kernel
theorem dX1_isVoid_33 : decode cX1_isVoid 33 = .ok (.iconst 1, 1) := by decide +kernel
theorem dX1_isVoid_34 : decode cX1_isVoid 34 = .ok (.if_icmp .ne 7, 3) := by decide +kernel
theorem dX1_isVoid_37 : decode cX1_isVoid 37 = .ok (.iconst 1, 1) := by decide +kernel
theorem dX1_isVoid_38 : decode cX1_isVoid 38 = .ok (.goto 4, 3) := by decide +kernel
theorem dX1_isVoid_41 : decode cX1_isVoid 41 = .ok (.iconst 0, 1) := by decide +kernel
theorem dX1_isVoid_42 : decode cX1_isVoid 42 = .ok (.ireturn, 1) := by decide +kernel
theorem dX1_dueOfLine_0 : decode cX1_dueOfLine 0 = .ok (.aload_n 0, 1) := by decide +kernel
theorem dX1_dueOfLine_1 : decode cX1_dueOfLine 1 = .ok (.getfield 24, 3) := by decide +kernel
theorem dX1_dueOfLine_4 : decode cX1_dueOfLine 4 = .ok (.iload_n 1, 1) := by decide +kernel
theorem dX1_dueOfLine_5 : decode cX1_dueOfLine 5 = .ok (.iaload, 1) := by decide +kernel
theorem dX1_dueOfLine_6 : decode cX1_dueOfLine 6 = .ok (.istore_n 3, 1) := by decide +kernel
theorem dX1_dueOfLine_7 : decode cX1_dueOfLine 7 = .ok (.iconst 0, 1) := by decide +kernel
theorem dX1_dueOfLine_8 : decode cX1_dueOfLine 8 = .ok (.istore 4, 2) := by decide +kernel
theorem dX1_dueOfLine_10 : decode cX1_dueOfLine 10 = .ok (.iconst 0, 1) := by decide +kernel
theorem dX1_dueOfLine_11 : decode cX1_dueOfLine 11 = .ok (.istore 5, 2) := by decide +kernel
theorem dX1_dueOfLine_13 : decode cX1_dueOfLine 13 = .ok (.iload 5, 2) := by decide +kernel
theorem dX1_dueOfLine_15 : decode cX1_dueOfLine 15 = .ok (.aload_n 0, 1) := by decide +kernel
theorem dX1_dueOfLine_16 : decode cX1_dueOfLine 16 = .ok (.getfield 49, 3) := by decide +kernel
theorem dX1_dueOfLine_19 : decode cX1_dueOfLine 19 = .ok (.if_icmp .ge 46, 3) := by decide +kernel
theorem dX1_dueOfLine_22 : decode cX1_dueOfLine 22 = .ok (.iload 4, 2) := by decide +kernel
theorem dX1_dueOfLine_24 : decode cX1_dueOfLine 24 = .ok (.aload_n 0, 1) := by decide +kernel
theorem dX1_dueOfLine_25 : decode cX1_dueOfLine 25 = .ok (.getfield 24, 3) := by decide +kernel
theorem dX1_dueOfLine_28 : decode cX1_dueOfLine 28 = .ok (.iload 5, 2) := by decide +kernel
theorem dX1_dueOfLine_30 : decode cX1_dueOfLine 30 = .ok (.iaload, 1) := by decide +kernel
theorem dX1_dueOfLine_31 : decode cX1_dueOfLine 31 = .ok (.iload_n 3, 1) := by decide +kernel
theorem dX1_dueOfLine_32 : decode cX1_dueOfLine 32 = .ok (.if_icmp .ne 23, 3) := by decide +kernel
theorem dX1_dueOfLine_35 : decode cX1_dueOfLine 35 = .ok (.aload_n 0, 1) := by decide +kernel
theorem dX1_dueOfLine_36 : decode cX1_dueOfLine 36 = .ok (.iload 5, 2) := by decide +kernel
theorem dX1_dueOfLine_38 : decode cX1_dueOfLine 38 = .ok (.iload_n 2, 1) := by decide +kernel
theorem dX1_dueOfLine_39 : decode cX1_dueOfLine 39 = .ok (.invokevirtual 83, 3) := by decide +kernel
theorem dX1_dueOfLine_42 : decode cX1_dueOfLine 42 = .ok (.ifCond .ne 13, 3) := by decide +kernel
theorem dX1_dueOfLine_45 : decode cX1_dueOfLine 45 = .ok (.aload_n 0, 1) := by decide +kernel
theorem dX1_dueOfLine_46 : decode cX1_dueOfLine 46 = .ok (.getfield 30, 3) := by decide +kernel
theorem dX1_dueOfLine_49 : decode cX1_dueOfLine 49 = .ok (.iload 5, 2) := by decide +kernel
theorem dX1_dueOfLine_51 : decode cX1_dueOfLine 51 = .ok (.iaload, 1) := by decide +kernel
theorem dX1_dueOfLine_52 : decode cX1_dueOfLine 52 = .ok (.goto 4, 3) := by decide +kernel
theorem dX1_dueOfLine_55 : decode cX1_dueOfLine 55 = .ok (.iconst 0, 1) := by decide +kernel
theorem dX1_dueOfLine_56 : decode cX1_dueOfLine 56 = .ok (.iadd, 1) := by decide +kernel
theorem dX1_dueOfLine_57 : decode cX1_dueOfLine 57 = .ok (.istore 4, 2) := by decide +kernel
theorem dX1_dueOfLine_59 : decode cX1_dueOfLine 59 = .ok (.iinc 5 1, 3) := by decide +kernel
theorem dX1_dueOfLine_62 : decode cX1_dueOfLine 62 = .ok (.goto (-49), 3) := by decide +kernel
theorem dX1_dueOfLine_65 : decode cX1_dueOfLine 65 = .ok (.aload_n 0, 1) := by decide +kernel
theorem dX1_dueOfLine_66 : decode cX1_dueOfLine 66 = .ok (.getfield 30, 3) := by decide +kernel
theorem dX1_dueOfLine_69 : decode cX1_dueOfLine 69 = .ok (.iload_n 1, 1) := by decide +kernel
theorem dX1_dueOfLine_70 : decode cX1_dueOfLine 70 = .ok (.iaload, 1) := by decide +kernel
theorem dX1_dueOfLine_71 : decode cX1_dueOfLine 71 = .ok (.istore 5, 2) := by decide +kernel
theorem dX1_dueOfLine_73 : decode cX1_dueOfLine 73 = .ok (.iload 4, 2) := by decide +kernel
theorem dX1_dueOfLine_75 : decode cX1_dueOfLine 75 = .ok (.aload_n 0, 1) := by decide +kernel
theorem dX1_dueOfLine_76 : decode cX1_dueOfLine 76 = .ok (.getfield 9, 3) := by decide +kernel
theorem dX1_dueOfLine_79 : decode cX1_dueOfLine 79 = .ok (.iload_n 3, 1) := by decide +kernel
theorem dX1_dueOfLine_80 : decode cX1_dueOfLine 80 = .ok (.iaload, 1) := by decide +kernel
theorem dX1_dueOfLine_81 : decode cX1_dueOfLine 81 = .ok (.if_icmp .le 23, 3) := by decide +kernel
theorem dX1_dueOfLine_84 : decode cX1_dueOfLine 84 = .ok (.iload 4, 2) := by decide +kernel
theorem dX1_dueOfLine_86 : decode cX1_dueOfLine 86 = .ok (.ifCond .le 18, 3) := by decide +kernel
theorem dX1_dueOfLine_89 : decode cX1_dueOfLine 89 = .ok (.iload 5, 2) := by decide +kernel
theorem dX1_dueOfLine_91 : decode cX1_dueOfLine 91 = .ok (.aload_n 0, 1) := by decide +kernel
theorem dX1_dueOfLine_92 : decode cX1_dueOfLine 92 = .ok (.getfield 9, 3) := by decide +kernel
theorem dX1_dueOfLine_95 : decode cX1_dueOfLine 95 = .ok (.iload_n 3, 1) := by decide +kernel
theorem dX1_dueOfLine_96 : decode cX1_dueOfLine 96 = .ok (.iaload, 1) := by decide +kernel
theorem dX1_dueOfLine_97 : decode cX1_dueOfLine 97 = .ok (.imul, 1) := by decide +kernel
theorem dX1_dueOfLine_98 : decode cX1_dueOfLine 98 = .ok (.iload 4, 2) := by decide +kernel
theorem dX1_dueOfLine_100 : decode cX1_dueOfLine 100 = .ok (.idiv, 1) := by decide +kernel
theorem dX1_dueOfLine_101 : decode cX1_dueOfLine 101 = .ok (.goto 5, 3) := by decide +kernel
theorem dX1_dueOfLine_104 : decode cX1_dueOfLine 104 = .ok (.iload 5, 2) := by decide +kernel
theorem dX1_dueOfLine_106 : decode cX1_dueOfLine 106 = .ok (.ireturn, 1) := by decide +kernel
theorem dX1_namesBorneBy_0 : decode cX1_namesBorneBy 0 = .ok (.iconst 0, 1) := by decide +kernel
theorem dX1_namesBorneBy_1 : decode cX1_namesBorneBy 1 = .ok (.istore_n 2, 1) := by decide +kernel
theorem dX1_namesBorneBy_2 : decode cX1_namesBorneBy 2 = .ok (.iconst 0, 1) := by decide +kernel
theorem dX1_namesBorneBy_3 : decode cX1_namesBorneBy 3 = .ok (.istore_n 3, 1) := by decide +kernel
theorem dX1_namesBorneBy_4 : decode cX1_namesBorneBy 4 = .ok (.iload_n 3, 1) := by decide +kernel
theorem dX1_namesBorneBy_5 : decode cX1_namesBorneBy 5 = .ok (.aload_n 0, 1) := by decide +kernel
theorem dX1_namesBorneBy_6 : decode cX1_namesBorneBy 6 = .ok (.getfield 46, 3) := by decide +kernel
theorem dX1_namesBorneBy_9 : decode cX1_namesBorneBy 9 = .ok (.if_icmp .ge 29, 3) := by decide +kernel
theorem dX1_namesBorneBy_12 : decode cX1_namesBorneBy 12 = .ok (.iload_n 2, 1) := by decide +kernel
theorem dX1_namesBorneBy_13 : decode cX1_namesBorneBy 13 = .ok (.aload_n 0, 1) := by decide +kernel
theorem dX1_namesBorneBy_14 : decode cX1_namesBorneBy 14 = .ok (.getfield 33, 3) := by decide +kernel
theorem dX1_namesBorneBy_17 : decode cX1_namesBorneBy 17 = .ok (.iload_n 3, 1) := by decide +kernel
theorem dX1_namesBorneBy_18 : decode cX1_namesBorneBy 18 = .ok (.iaload, 1) := by decide +kernel
theorem dX1_namesBorneBy_19 : decode cX1_namesBorneBy 19 = .ok (.iload_n 1, 1) := by decide +kernel
theorem dX1_namesBorneBy_20 : decode cX1_namesBorneBy 20 = .ok (.if_icmp .ne 9, 3) := by decide +kernel
theorem dX1_namesBorneBy_23 : decode cX1_namesBorneBy 23 = .ok (.iconst 1, 1) := by decide +kernel
theorem dX1_namesBorneBy_24 : decode cX1_namesBorneBy 24 = .ok (.iload_n 3, 1) := by decide +kernel
theorem dX1_namesBorneBy_25 : decode cX1_namesBorneBy 25 = .ok (.ishl, 1) := by decide +kernel
theorem dX1_namesBorneBy_26 : decode cX1_namesBorneBy 26 = .ok (.goto 4, 3) := by decide +kernel
theorem dX1_namesBorneBy_29 : decode cX1_namesBorneBy 29 = .ok (.iconst 0, 1) := by decide +kernel
theorem dX1_namesBorneBy_30 : decode cX1_namesBorneBy 30 = .ok (.ior, 1) := by decide +kernel
theorem dX1_namesBorneBy_31 : decode cX1_namesBorneBy 31 = .ok (.istore_n 2, 1) := by decide +kernel
theorem dX1_namesBorneBy_32 : decode cX1_namesBorneBy 32 = .ok (.iinc 3 1, 3) := by decide +kernel
theorem dX1_namesBorneBy_35 : decode cX1_namesBorneBy 35 = .ok (.goto (-31), 3) := by decide +kernel
theorem dX1_namesBorneBy_38 : decode cX1_namesBorneBy 38 = .ok (.iload_n 2, 1) := by decide +kernel
theorem dX1_namesBorneBy_39 : decode cX1_namesBorneBy 39 = .ok (.ireturn, 1) := by decide +kernel
theorem dX1_dueOf_0 : decode cX1_dueOf 0 = .ok (.iconst 0, 1) := by decide +kernel
theorem dX1_dueOf_1 : decode cX1_dueOf 1 = .ok (.istore_n 3, 1) := by decide +kernel
theorem dX1_dueOf_2 : decode cX1_dueOf 2 = .ok (.iconst 0, 1) := by decide +kernel
theorem dX1_dueOf_3 : decode cX1_dueOf 3 = .ok (.istore 4, 2) := by decide +kernel
theorem dX1_dueOf_5 : decode cX1_dueOf 5 = .ok (.iload 4, 2) := by decide +kernel
theorem dX1_dueOf_7 : decode cX1_dueOf 7 = .ok (.aload_n 0, 1) := by decide +kernel
theorem dX1_dueOf_8 : decode cX1_dueOf 8 = .ok (.getfield 49, 3) := by decide +kernel
theorem dX1_dueOf_11 : decode cX1_dueOf 11 = .ok (.if_icmp .ge 45, 3) := by decide +kernel
theorem dX1_dueOf_14 : decode cX1_dueOf 14 = .ok (.iload_n 3, 1) := by decide +kernel
theorem dX1_dueOf_15 : decode cX1_dueOf 15 = .ok (.aload_n 0, 1) := by decide +kernel
theorem dX1_dueOf_16 : decode cX1_dueOf 16 = .ok (.getfield 24, 3) := by decide +kernel
theorem dX1_dueOf_19 : decode cX1_dueOf 19 = .ok (.iload 4, 2) := by decide +kernel
theorem dX1_dueOf_21 : decode cX1_dueOf 21 = .ok (.iaload, 1) := by decide +kernel
theorem dX1_dueOf_22 : decode cX1_dueOf 22 = .ok (.iload_n 1, 1) := by decide +kernel
theorem dX1_dueOf_23 : decode cX1_dueOf 23 = .ok (.if_icmp .ne 24, 3) := by decide +kernel
theorem dX1_dueOf_26 : decode cX1_dueOf 26 = .ok (.aload_n 0, 1) := by decide +kernel
theorem dX1_dueOf_27 : decode cX1_dueOf 27 = .ok (.getfield 39, 3) := by decide +kernel
theorem dX1_dueOf_30 : decode cX1_dueOf 30 = .ok (.iload 4, 2) := by decide +kernel
theorem dX1_dueOf_32 : decode cX1_dueOf 32 = .ok (.iaload, 1) := by decide +kernel
theorem dX1_dueOf_33 : decode cX1_dueOf 33 = .ok (.iload_n 2, 1) := by decide +kernel
theorem dX1_dueOf_34 : decode cX1_dueOf 34 = .ok (.if_icmp .ne 13, 3) := by decide +kernel
theorem dX1_dueOf_37 : decode cX1_dueOf 37 = .ok (.aload_n 0, 1) := by decide +kernel
theorem dX1_dueOf_38 : decode cX1_dueOf 38 = .ok (.getfield 36, 3) := by decide +kernel
theorem dX1_dueOf_41 : decode cX1_dueOf 41 = .ok (.iload 4, 2) := by decide +kernel
theorem dX1_dueOf_43 : decode cX1_dueOf 43 = .ok (.iaload, 1) := by decide +kernel
theorem dX1_dueOf_44 : decode cX1_dueOf 44 = .ok (.goto 4, 3) := by decide +kernel
theorem dX1_dueOf_47 : decode cX1_dueOf 47 = .ok (.iconst 0, 1) := by decide +kernel
theorem dX1_dueOf_48 : decode cX1_dueOf 48 = .ok (.iadd, 1) := by decide +kernel
theorem dX1_dueOf_49 : decode cX1_dueOf 49 = .ok (.istore_n 3, 1) := by decide +kernel
theorem dX1_dueOf_50 : decode cX1_dueOf 50 = .ok (.iinc 4 1, 3) := by decide +kernel
theorem dX1_dueOf_53 : decode cX1_dueOf 53 = .ok (.goto (-48), 3) := by decide +kernel
theorem dX1_dueOf_56 : decode cX1_dueOf 56 = .ok (.iload_n 3, 1) := by decide +kernel
theorem dX1_dueOf_57 : decode cX1_dueOf 57 = .ok (.ireturn, 1) := by decide +kernel
theorem dX1_dueOfAllShips_0 : decode cX1_dueOfAllShips 0 = .ok (.iconst 0, 1) := by decide +kernel
theorem dX1_dueOfAllShips_1 : decode cX1_dueOfAllShips 1 = .ok (.istore_n 2, 1) := by decide +kernel
theorem dX1_dueOfAllShips_2 : decode cX1_dueOfAllShips 2 = .ok (.iconst 0, 1) := by decide +kernel
theorem dX1_dueOfAllShips_3 : decode cX1_dueOfAllShips 3 = .ok (.istore_n 3, 1) := by decide +kernel
theorem dX1_dueOfAllShips_4 : decode cX1_dueOfAllShips 4 = .ok (.iload_n 3, 1) := by decide +kernel
theorem dX1_dueOfAllShips_5 : decode cX1_dueOfAllShips 5 = .ok (.aload_n 0, 1) := by decide +kernel
theorem dX1_dueOfAllShips_6 : decode cX1_dueOfAllShips 6 = .ok (.getfield 42, 3) := by decide +kernel
theorem dX1_dueOfAllShips_9 : decode cX1_dueOfAllShips 9 = .ok (.if_icmp .ge 18, 3) := by decide +kernel
theorem dX1_dueOfAllShips_12 : decode cX1_dueOfAllShips 12 = .ok (.iload_n 2, 1) := by decide +kernel
theorem dX1_dueOfAllShips_13 : decode cX1_dueOfAllShips 13 = .ok (.aload_n 0, 1) := by decide +kernel
theorem dX1_dueOfAllShips_14 : decode cX1_dueOfAllShips 14 = .ok (.iload_n 3, 1) := by decide +kernel
theorem dX1_dueOfAllShips_15 : decode cX1_dueOfAllShips 15 = .ok (.iload_n 1, 1) := by decide +kernel
theorem dX1_dueOfAllShips_16 : decode cX1_dueOfAllShips 16 = .ok (.invokevirtual 97, 3) := by decide +kernel
theorem dX1_dueOfAllShips_19 : decode cX1_dueOfAllShips 19 = .ok (.iadd, 1) := by decide +kernel
theorem dX1_dueOfAllShips_20 : decode cX1_dueOfAllShips 20 = .ok (.istore_n 2, 1) := by decide +kernel
theorem dX1_dueOfAllShips_21 : decode cX1_dueOfAllShips 21 = .ok (.iinc 3 1, 3) := by decide +kernel
theorem dX1_dueOfAllShips_24 : decode cX1_dueOfAllShips 24 = .ok (.goto (-20), 3) := by decide +kernel
theorem dX1_dueOfAllShips_27 : decode cX1_dueOfAllShips 27 = .ok (.iload_n 2, 1) := by decide +kernel
theorem dX1_dueOfAllShips_28 : decode cX1_dueOfAllShips 28 = .ok (.ireturn, 1) := by decide +kernel
theorem dX1_hasTogether_0 : decode cX1_hasTogether 0 = .ok (.iconst 0, 1) := by decide +kernel
theorem dX1_hasTogether_1 : decode cX1_hasTogether 1 = .ok (.istore_n 2, 1) := by decide +kernel
theorem dX1_hasTogether_2 : decode cX1_hasTogether 2 = .ok (.iconst 0, 1) := by decide +kernel
theorem dX1_hasTogether_3 : decode cX1_hasTogether 3 = .ok (.istore_n 3, 1) := by decide +kernel
theorem dX1_hasTogether_4 : decode cX1_hasTogether 4 = .ok (.iload_n 3, 1) := by decide +kernel
theorem dX1_hasTogether_5 : decode cX1_hasTogether 5 = .ok (.aload_n 0, 1) := by decide +kernel
theorem dX1_hasTogether_6 : decode cX1_hasTogether 6 = .ok (.getfield 46, 3) := by decide +kernel
theorem dX1_hasTogether_9 : decode cX1_hasTogether 9 = .ok (.if_icmp .ge 31, 3) := by decide +kernel
theorem dX1_hasTogether_12 : decode cX1_hasTogether 12 = .ok (.iload_n 2, 1) := by decide +kernel
theorem dX1_hasTogether_13 : decode cX1_hasTogether 13 = .ok (.iload_n 1, 1) := by decide +kernel
theorem dX1_hasTogether_14 : decode cX1_hasTogether 14 = .ok (.iload_n 3, 1) := by decide +kernel
theorem dX1_hasTogether_15 : decode cX1_hasTogether 15 = .ok (.ishr, 1) := by decide +kernel
theorem dX1_hasTogether_16 : decode cX1_hasTogether 16 = .ok (.iconst 1, 1) := by decide +kernel
theorem dX1_hasTogether_17 : decode cX1_hasTogether 17 = .ok (.iand, 1) := by decide +kernel
theorem dX1_hasTogether_18 : decode cX1_hasTogether 18 = .ok (.iconst 1, 1) := by decide +kernel
theorem dX1_hasTogether_19 : decode cX1_hasTogether 19 = .ok (.if_icmp .ne 12, 3) := by decide +kernel
theorem dX1_hasTogether_22 : decode cX1_hasTogether 22 = .ok (.aload_n 0, 1) := by decide +kernel
theorem dX1_hasTogether_23 : decode cX1_hasTogether 23 = .ok (.getfield 18, 3) := by decide +kernel
theorem dX1_hasTogether_26 : decode cX1_hasTogether 26 = .ok (.iload_n 3, 1) := by decide +kernel
theorem dX1_hasTogether_27 : decode cX1_hasTogether 27 = .ok (.iaload, 1) := by decide +kernel
theorem dX1_hasTogether_28 : decode cX1_hasTogether 28 = .ok (.goto 4, 3) := by decide +kernel
theorem dX1_hasTogether_31 : decode cX1_hasTogether 31 = .ok (.iconst 0, 1) := by decide +kernel
theorem dX1_hasTogether_32 : decode cX1_hasTogether 32 = .ok (.iadd, 1) := by decide +kernel
theorem dX1_hasTogether_33 : decode cX1_hasTogether 33 = .ok (.istore_n 2, 1) := by decide +kernel
theorem dX1_hasTogether_34 : decode cX1_hasTogether 34 = .ok (.iinc 3 1, 3) := by decide +kernel
theorem dX1_hasTogether_37 : decode cX1_hasTogether 37 = .ok (.goto (-33), 3) := by decide +kernel
theorem dX1_hasTogether_40 : decode cX1_hasTogether 40 = .ok (.iload_n 2, 1) := by decide +kernel
theorem dX1_hasTogether_41 : decode cX1_hasTogether 41 = .ok (.ireturn, 1) := by decide +kernel
theorem dX1_chancesOf_0 : decode cX1_chancesOf 0 = .ok (.iconst 1, 1) := by decide +kernel
theorem dX1_chancesOf_1 : decode cX1_chancesOf 1 = .ok (.istore_n 2, 1) := by decide +kernel
theorem dX1_chancesOf_2 : decode cX1_chancesOf 2 = .ok (.iconst 0, 1) := by decide +kernel
theorem dX1_chancesOf_3 : decode cX1_chancesOf 3 = .ok (.istore_n 3, 1) := by decide +kernel
theorem dX1_chancesOf_4 : decode cX1_chancesOf 4 = .ok (.iload_n 3, 1) := by decide +kernel
theorem dX1_chancesOf_5 : decode cX1_chancesOf 5 = .ok (.aload_n 0, 1) := by decide +kernel
theorem dX1_chancesOf_6 : decode cX1_chancesOf 6 = .ok (.getfield 42, 3) := by decide +kernel
theorem dX1_chancesOf_9 : decode cX1_chancesOf 9 = .ok (.if_icmp .ge 51, 3) := by decide +kernel
theorem dX1_chancesOf_12 : decode cX1_chancesOf 12 = .ok (.iload_n 1, 1) := by decide +kernel
theorem dX1_chancesOf_13 : decode cX1_chancesOf 13 = .ok (.iload_n 3, 1) := by decide +kernel
theorem dX1_chancesOf_14 : decode cX1_chancesOf 14 = .ok (.ishr, 1) := by decide +kernel
theorem dX1_chancesOf_15 : decode cX1_chancesOf 15 = .ok (.iconst 1, 1) := by decide +kernel
theorem dX1_chancesOf_16 : decode cX1_chancesOf 16 = .ok (.iand, 1) := by decide +kernel
theorem dX1_chancesOf_17 : decode cX1_chancesOf 17 = .ok (.iconst 1, 1) := by decide +kernel
theorem dX1_chancesOf_18 : decode cX1_chancesOf 18 = .ok (.if_icmp .ne 7, 3) := by decide +kernel
theorem dX1_chancesOf_21 : decode cX1_chancesOf 21 = .ok (.iconst 1, 1) := by decide +kernel
theorem dX1_chancesOf_22 : decode cX1_chancesOf 22 = .ok (.goto 4, 3) := by decide +kernel
theorem dX1_chancesOf_25 : decode cX1_chancesOf 25 = .ok (.iconst 0, 1) := by decide +kernel
theorem dX1_chancesOf_26 : decode cX1_chancesOf 26 = .ok (.istore 4, 2) := by decide +kernel
theorem dX1_chancesOf_28 : decode cX1_chancesOf 28 = .ok (.iload_n 2, 1) := by decide +kernel
theorem dX1_chancesOf_29 : decode cX1_chancesOf 29 = .ok (.iload 4, 2) := by decide +kernel
theorem dX1_chancesOf_31 : decode cX1_chancesOf 31 = .ok (.ifCond .eq 12, 3) := by decide +kernel
theorem dX1_chancesOf_34 : decode cX1_chancesOf 34 = .ok (.aload_n 0, 1) := by decide +kernel
theorem dX1_chancesOf_35 : decode cX1_chancesOf 35 = .ok (.getfield 15, 3) := by decide +kernel
theorem dX1_chancesOf_38 : decode cX1_chancesOf 38 = .ok (.iload_n 3, 1) := by decide +kernel
theorem dX1_chancesOf_39 : decode cX1_chancesOf 39 = .ok (.iaload, 1) := by decide +kernel
theorem dX1_chancesOf_40 : decode cX1_chancesOf 40 = .ok (.goto 12, 3) := by decide +kernel
theorem dX1_chancesOf_43 : decode cX1_chancesOf 43 = .ok (.bipush 16, 2) := by decide +kernel
theorem dX1_chancesOf_45 : decode cX1_chancesOf 45 = .ok (.aload_n 0, 1) := by decide +kernel
theorem dX1_chancesOf_46 : decode cX1_chancesOf 46 = .ok (.getfield 15, 3) := by decide +kernel
theorem dX1_chancesOf_49 : decode cX1_chancesOf 49 = .ok (.iload_n 3, 1) := by decide +kernel
theorem dX1_chancesOf_50 : decode cX1_chancesOf 50 = .ok (.iaload, 1) := by decide +kernel
theorem dX1_chancesOf_51 : decode cX1_chancesOf 51 = .ok (.isub, 1) := by decide +kernel
theorem dX1_chancesOf_52 : decode cX1_chancesOf 52 = .ok (.imul, 1) := by decide +kernel
theorem dX1_chancesOf_53 : decode cX1_chancesOf 53 = .ok (.istore_n 2, 1) := by decide +kernel
theorem dX1_chancesOf_54 : decode cX1_chancesOf 54 = .ok (.iinc 3 1, 3) := by decide +kernel
theorem dX1_chancesOf_57 : decode cX1_chancesOf 57 = .ok (.goto (-53), 3) := by decide +kernel
theorem dX1_chancesOf_60 : decode cX1_chancesOf 60 = .ok (.iload_n 2, 1) := by decide +kernel
theorem dX1_chancesOf_61 : decode cX1_chancesOf 61 = .ok (.ireturn, 1) := by decide +kernel
theorem dX2_init_0 : decode cX2_init 0 = .ok (.aload_n 0, 1) := by decide +kernel
theorem dX2_init_1 : decode cX2_init 1 = .ok (.invokespecial 1, 3) := by decide +kernel
theorem dX2_init_4 : decode cX2_init 4 = .ok (.aload_n 0, 1) := by decide +kernel
theorem dX2_init_5 : decode cX2_init 5 = .ok (.iload_n 1, 1) := by decide +kernel
theorem dX2_init_6 : decode cX2_init 6 = .ok (.newarray .int, 2) := by decide +kernel
theorem dX2_init_8 : decode cX2_init 8 = .ok (.putfield 7, 3) := by decide +kernel
theorem dX2_init_11 : decode cX2_init 11 = .ok (.aload_n 0, 1) := by decide +kernel
theorem dX2_init_12 : decode cX2_init 12 = .ok (.iload_n 1, 1) := by decide +kernel
theorem dX2_init_13 : decode cX2_init 13 = .ok (.newarray .int, 2) := by decide +kernel
theorem dX2_init_15 : decode cX2_init 15 = .ok (.putfield 13, 3) := by decide +kernel
theorem dX2_init_18 : decode cX2_init 18 = .ok (.return_, 1) := by decide +kernel
theorem dX2_isFull_0 : decode cX2_isFull 0 = .ok (.aload_n 0, 1) := by decide +kernel
theorem dX2_isFull_1 : decode cX2_isFull 1 = .ok (.getfield 16, 3) := by decide +kernel
theorem dX2_isFull_4 : decode cX2_isFull 4 = .ok (.aload_n 0, 1) := by decide +kernel
theorem dX2_isFull_5 : decode cX2_isFull 5 = .ok (.getfield 7, 3) := by decide +kernel
theorem dX2_isFull_8 : decode cX2_isFull 8 = .ok (.arraylength, 1) := by decide +kernel
theorem dX2_isFull_9 : decode cX2_isFull 9 = .ok (.if_icmp .lt 7, 3) := by decide +kernel
theorem dX2_isFull_12 : decode cX2_isFull 12 = .ok (.iconst 1, 1) := by decide +kernel
theorem dX2_isFull_13 : decode cX2_isFull 13 = .ok (.goto 4, 3) := by decide +kernel
theorem dX2_isFull_16 : decode cX2_isFull 16 = .ok (.iconst 0, 1) := by decide +kernel
theorem dX2_isFull_17 : decode cX2_isFull 17 = .ok (.ireturn, 1) := by decide +kernel
theorem dX2_append_0 : decode cX2_append 0 = .ok (.aload_n 0, 1) := by decide +kernel
theorem dX2_append_1 : decode cX2_append 1 = .ok (.invokevirtual 20, 3) := by decide +kernel
theorem dX2_append_4 : decode cX2_append 4 = .ok (.ifCond .ne 33, 3) := by decide +kernel
theorem dX2_append_7 : decode cX2_append 7 = .ok (.aload_n 0, 1) := by decide +kernel
theorem dX2_append_8 : decode cX2_append 8 = .ok (.getfield 7, 3) := by decide +kernel
theorem dX2_append_11 : decode cX2_append 11 = .ok (.aload_n 0, 1) := by decide +kernel
theorem dX2_append_12 : decode cX2_append 12 = .ok (.getfield 16, 3) := by decide +kernel
theorem dX2_append_15 : decode cX2_append 15 = .ok (.iload_n 1, 1) := by decide +kernel
theorem dX2_append_16 : decode cX2_append 16 = .ok (.iastore, 1) := by decide +kernel
theorem dX2_append_17 : decode cX2_append 17 = .ok (.aload_n 0, 1) := by decide +kernel
theorem dX2_append_18 : decode cX2_append 18 = .ok (.getfield 13, 3) := by decide +kernel
theorem dX2_append_21 : decode cX2_append 21 = .ok (.aload_n 0, 1) := by decide +kernel
theorem dX2_append_22 : decode cX2_append 22 = .ok (.getfield 16, 3) := by decide +kernel
theorem dX2_append_25 : decode cX2_append 25 = .ok (.iload_n 2, 1) := by decide +kernel
theorem dX2_append_26 : decode cX2_append 26 = .ok (.iastore, 1) := by decide +kernel
theorem dX2_append_27 : decode cX2_append 27 = .ok (.aload_n 0, 1) := by decide +kernel
theorem dX2_append_28 : decode cX2_append 28 = .ok (.dup, 1) := by decide +kernel
theorem dX2_append_29 : decode cX2_append 29 = .ok (.getfield 16, 3) := by decide +kernel
theorem dX2_append_32 : decode cX2_append 32 = .ok (.iconst 1, 1) := by decide +kernel
theorem dX2_append_33 : decode cX2_append 33 = .ok (.iadd, 1) := by decide +kernel
theorem dX2_append_34 : decode cX2_append 34 = .ok (.putfield 16, 3) := by decide +kernel
theorem dX2_append_37 : decode cX2_append 37 = .ok (.aload_n 0, 1) := by decide +kernel
theorem dX2_append_38 : decode cX2_append 38 = .ok (.getfield 16, 3) := by decide +kernel
theorem dX2_append_41 : decode cX2_append 41 = .ok (.ireturn, 1) := by decide +kernel
theorem dX3_init_0 : decode cX3_init 0 = .ok (.aload_n 0, 1) := by decide +kernel
theorem dX3_init_1 : decode cX3_init 1 = .ok (.invokespecial 3, 3) := by decide +kernel
theorem dX3_init_4 : decode cX3_init 4 = .ok (.aload_n 0, 1) := by decide +kernel
theorem dX3_init_5 : decode cX3_init 5 = .ok (.bipush 8, 2) := by decide +kernel
theorem dX3_init_7 : decode cX3_init 7 = .ok (.newarray .int, 2) := by decide +kernel
theorem dX3_init_9 : decode cX3_init 9 = .ok (.putfield 9, 3) := by decide +kernel
theorem dX3_init_12 : decode cX3_init 12 = .ok (.aload_n 0, 1) := by decide +kernel
theorem dX3_init_13 : decode cX3_init 13 = .ok (.bipush 6, 2) := by decide +kernel
theorem dX3_init_15 : decode cX3_init 15 = .ok (.newarray .int, 2) := by decide +kernel
theorem dX3_init_17 : decode cX3_init 17 = .ok (.putfield 15, 3) := by decide +kernel
theorem dX3_init_20 : decode cX3_init 20 = .ok (.aload_n 0, 1) := by decide +kernel
theorem dX3_init_21 : decode cX3_init 21 = .ok (.aload_n 1, 1) := by decide +kernel
theorem dX3_init_22 : decode cX3_init 22 = .ok (.putfield 18, 3) := by decide +kernel
theorem dX3_init_25 : decode cX3_init 25 = .ok (.return_, 1) := by decide +kernel
theorem dX3_followTold_0 : decode cX3_followTold 0 = .ok (.aload_n 0, 1) := by decide +kernel
theorem dX3_followTold_1 : decode cX3_followTold 1 = .ok (.invokevirtual 22, 3) := by decide +kernel
theorem dX3_followTold_4 : decode cX3_followTold 4 = .ok (.iconst 0, 1) := by decide +kernel
theorem dX3_followTold_5 : decode cX3_followTold 5 = .ok (.istore_n 3, 1) := by decide +kernel
theorem dX3_followTold_6 : decode cX3_followTold 6 = .ok (.iload_n 3, 1) := by decide +kernel
theorem dX3_followTold_7 : decode cX3_followTold 7 = .ok (.iload_n 2, 1) := by decide +kernel
theorem dX3_followTold_8 : decode cX3_followTold 8 = .ok (.if_icmp .gt 53, 3) := by decide +kernel
theorem dX3_followTold_11 : decode cX3_followTold 11 = .ok (.iconst 0, 1) := by decide +kernel
theorem dX3_followTold_12 : decode cX3_followTold 12 = .ok (.istore 4, 2) := by decide +kernel
theorem dX3_followTold_14 : decode cX3_followTold 14 = .ok (.iload 4, 2) := by decide +kernel
theorem dX3_followTold_16 : decode cX3_followTold 16 = .ok (.aload_n 1, 1) := by decide +kernel
theorem dX3_followTold_17 : decode cX3_followTold 17 = .ok (.getfield 25, 3) := by decide +kernel
theorem dX3_followTold_20 : decode cX3_followTold 20 = .ok (.if_icmp .ge 35, 3) := by decide +kernel
theorem dX3_followTold_23 : decode cX3_followTold 23 = .ok (.aload_n 1, 1) := by decide +kernel
theorem dX3_followTold_24 : decode cX3_followTold 24 = .ok (.getfield 31, 3) := by decide +kernel
theorem dX3_followTold_27 : decode cX3_followTold 27 = .ok (.iload 4, 2) := by decide +kernel
theorem dX3_followTold_29 : decode cX3_followTold 29 = .ok (.iaload, 1) := by decide +kernel
theorem dX3_followTold_30 : decode cX3_followTold 30 = .ok (.iload_n 3, 1) := by decide +kernel
theorem dX3_followTold_31 : decode cX3_followTold 31 = .ok (.if_icmp .ne 18, 3) := by decide +kernel
theorem dX3_followTold_34 : decode cX3_followTold 34 = .ok (.aload_n 0, 1) := by decide +kernel
theorem dX3_followTold_35 : decode cX3_followTold 35 = .ok (.aload_n 1, 1) := by decide +kernel
theorem dX3_followTold_36 : decode cX3_followTold 36 = .ok (.getfield 34, 3) := by decide +kernel
theorem dX3_followTold_39 : decode cX3_followTold 39 = .ok (.iload 4, 2) := by decide +kernel
theorem dX3_followTold_41 : decode cX3_followTold 41 = .ok (.iaload, 1) := by decide +kernel
theorem dX3_followTold_42 : decode cX3_followTold 42 = .ok (.iload_n 3, 1) := by decide +kernel
theorem dX3_followTold_43 : decode cX3_followTold 43 = .ok (.sipush 255, 3) := by decide +kernel
theorem dX3_followTold_46 : decode cX3_followTold 46 = .ok (.invokevirtual 37, 3) := by decide +kernel
theorem dX3_followTold_49 : decode cX3_followTold 49 = .ok (.iinc 4 1, 3) := by decide +kernel
theorem dX3_followTold_52 : decode cX3_followTold 52 = .ok (.goto (-38), 3) := by decide +kernel
theorem dX3_followTold_55 : decode cX3_followTold 55 = .ok (.iinc 3 1, 3) := by decide +kernel
theorem dX3_followTold_58 : decode cX3_followTold 58 = .ok (.goto (-52), 3) := by decide +kernel
theorem dX3_followTold_61 : decode cX3_followTold 61 = .ok (.return_, 1) := by decide +kernel
theorem dX3_followLots_0 : decode cX3_followLots 0 = .ok (.aload_n 0, 1) := by decide +kernel
theorem dX3_followLots_1 : decode cX3_followLots 1 = .ok (.invokevirtual 22, 3) := by decide +kernel
theorem dX3_followLots_4 : decode cX3_followLots 4 = .ok (.iload_n 1, 1) := by decide +kernel
theorem dX3_followLots_5 : decode cX3_followLots 5 = .ok (.istore_n 3, 1) := by decide +kernel
theorem dX3_followLots_6 : decode cX3_followLots 6 = .ok (.iconst 0, 1) := by decide +kernel
theorem dX3_followLots_7 : decode cX3_followLots 7 = .ok (.istore 4, 2) := by decide +kernel
theorem dX3_followLots_9 : decode cX3_followLots 9 = .ok (.iload 4, 2) := by decide +kernel
theorem dX3_followLots_11 : decode cX3_followLots 11 = .ok (.iload_n 2, 1) := by decide +kernel
theorem dX3_followLots_12 : decode cX3_followLots 12 = .ok (.if_icmp .ge 82, 3) := by decide +kernel
theorem dX3_followLots_15 : decode cX3_followLots 15 = .ok (.iconst 0, 1) := by decide +kernel
theorem dX3_followLots_16 : decode cX3_followLots 16 = .ok (.istore 5, 2) := by decide +kernel
theorem dX3_followLots_18 : decode cX3_followLots 18 = .ok (.iload 5, 2) := by decide +kernel
theorem dX3_followLots_20 : decode cX3_followLots 20 = .ok (.aload_n 0, 1) := by decide +kernel
theorem dX3_followLots_21 : decode cX3_followLots 21 = .ok (.getfield 18, 3) := by decide +kernel
theorem dX3_followLots_24 : decode cX3_followLots 24 = .ok (.getfield 41, 3) := by decide +kernel
theorem dX3_followLots_27 : decode cX3_followLots 27 = .ok (.if_icmp .ge 61, 3) := by decide +kernel
theorem dX3_followLots_30 : decode cX3_followLots 30 = .ok (.aload_n 0, 1) := by decide +kernel
theorem dX3_followLots_31 : decode cX3_followLots 31 = .ok (.iload 5, 2) := by decide +kernel
theorem dX3_followLots_33 : decode cX3_followLots 33 = .ok (.invokevirtual 46, 3) := by decide +kernel
theorem dX3_followLots_36 : decode cX3_followLots 36 = .ok (.ifCond .eq 6, 3) := by decide +kernel
theorem dX3_followLots_39 : decode cX3_followLots 39 = .ok (.goto 43, 3) := by decide +kernel
theorem dX3_followLots_42 : decode cX3_followLots 42 = .ok (.ldc 50, 2) := by decide +kernel
theorem dX3_followLots_44 : decode cX3_followLots 44 = .ok (.iload_n 3, 1) := by decide +kernel
theorem dX3_followLots_45 : decode cX3_followLots 45 = .ok (.imul, 1) := by decide +kernel
theorem dX3_followLots_46 : decode cX3_followLots 46 = .ok (.sipush 12345, 3) := by decide +kernel
theorem dX3_followLots_49 : decode cX3_followLots 49 = .ok (.iadd, 1) := by decide +kernel
theorem dX3_followLots_50 : decode cX3_followLots 50 = .ok (.istore_n 3, 1) := by decide +kernel
theorem dX3_followLots_51 : decode cX3_followLots 51 = .ok (.iload_n 3, 1) := by decide +kernel
theorem dX3_followLots_52 : decode cX3_followLots 52 = .ok (.bipush 16, 2) := by decide +kernel
theorem dX3_followLots_54 : decode cX3_followLots 54 = .ok (.iushr, 1) := by decide +kernel
theorem dX3_followLots_55 : decode cX3_followLots 55 = .ok (.bipush 16, 2) := by decide +kernel
theorem dX3_followLots_57 : decode cX3_followLots 57 = .ok (.irem, 1) := by decide +kernel
theorem dX3_followLots_58 : decode cX3_followLots 58 = .ok (.aload_n 0, 1) := by decide +kernel
theorem dX3_followLots_59 : decode cX3_followLots 59 = .ok (.getfield 18, 3) := by decide +kernel
theorem dX3_followLots_62 : decode cX3_followLots 62 = .ok (.getfield 51, 3) := by decide +kernel
theorem dX3_followLots_65 : decode cX3_followLots 65 = .ok (.iload 5, 2) := by decide +kernel
theorem dX3_followLots_67 : decode cX3_followLots 67 = .ok (.iaload, 1) := by decide +kernel
theorem dX3_followLots_68 : decode cX3_followLots 68 = .ok (.if_icmp .ge 14, 3) := by decide +kernel
theorem dX3_followLots_71 : decode cX3_followLots 71 = .ok (.aload_n 0, 1) := by decide +kernel
theorem dX3_followLots_72 : decode cX3_followLots 72 = .ok (.iload 5, 2) := by decide +kernel
theorem dX3_followLots_74 : decode cX3_followLots 74 = .ok (.iload 4, 2) := by decide +kernel
theorem dX3_followLots_76 : decode cX3_followLots 76 = .ok (.sipush 255, 3) := by decide +kernel
theorem dX3_followLots_79 : decode cX3_followLots 79 = .ok (.invokevirtual 37, 3) := by decide +kernel
theorem dX3_followLots_82 : decode cX3_followLots 82 = .ok (.iinc 5 1, 3) := by decide +kernel
theorem dX3_followLots_85 : decode cX3_followLots 85 = .ok (.goto (-67), 3) := by decide +kernel
theorem dX3_followLots_88 : decode cX3_followLots 88 = .ok (.iinc 4 1, 3) := by decide +kernel
theorem dX3_followLots_91 : decode cX3_followLots 91 = .ok (.goto (-82), 3) := by decide +kernel
theorem dX3_followLots_94 : decode cX3_followLots 94 = .ok (.return_, 1) := by decide +kernel
theorem dX3_loseTogether_0 : decode cX3_loseTogether 0 = .ok (.aload_n 0, 1) := by decide +kernel
theorem dX3_loseTogether_1 : decode cX3_loseTogether 1 = .ok (.invokevirtual 22, 3) := by decide +kernel
theorem dX3_loseTogether_4 : decode cX3_loseTogether 4 = .ok (.iconst 0, 1) := by decide +kernel
theorem dX3_loseTogether_5 : decode cX3_loseTogether 5 = .ok (.istore_n 2, 1) := by decide +kernel
theorem dX3_loseTogether_6 : decode cX3_loseTogether 6 = .ok (.iload_n 2, 1) := by decide +kernel
theorem dX3_loseTogether_7 : decode cX3_loseTogether 7 = .ok (.aload_n 0, 1) := by decide +kernel
theorem dX3_loseTogether_8 : decode cX3_loseTogether 8 = .ok (.getfield 18, 3) := by decide +kernel
theorem dX3_loseTogether_11 : decode cX3_loseTogether 11 = .ok (.getfield 41, 3) := by decide +kernel
theorem dX3_loseTogether_14 : decode cX3_loseTogether 14 = .ok (.if_icmp .ge 27, 3) := by decide +kernel
theorem dX3_loseTogether_17 : decode cX3_loseTogether 17 = .ok (.iload_n 1, 1) := by decide +kernel
theorem dX3_loseTogether_18 : decode cX3_loseTogether 18 = .ok (.iload_n 2, 1) := by decide +kernel
theorem dX3_loseTogether_19 : decode cX3_loseTogether 19 = .ok (.ishr, 1) := by decide +kernel
theorem dX3_loseTogether_20 : decode cX3_loseTogether 20 = .ok (.iconst 1, 1) := by decide +kernel
theorem dX3_loseTogether_21 : decode cX3_loseTogether 21 = .ok (.iand, 1) := by decide +kernel
theorem dX3_loseTogether_22 : decode cX3_loseTogether 22 = .ok (.iconst 1, 1) := by decide +kernel
theorem dX3_loseTogether_23 : decode cX3_loseTogether 23 = .ok (.if_icmp .ne 12, 3) := by decide +kernel
theorem dX3_loseTogether_26 : decode cX3_loseTogether 26 = .ok (.aload_n 0, 1) := by decide +kernel
theorem dX3_loseTogether_27 : decode cX3_loseTogether 27 = .ok (.iload_n 2, 1) := by decide +kernel
theorem dX3_loseTogether_28 : decode cX3_loseTogether 28 = .ok (.iconst 0, 1) := by decide +kernel
theorem dX3_loseTogether_29 : decode cX3_loseTogether 29 = .ok (.sipush 255, 3) := by decide +kernel
theorem dX3_loseTogether_32 : decode cX3_loseTogether 32 = .ok (.invokevirtual 37, 3) := by decide +kernel
theorem dX3_loseTogether_35 : decode cX3_loseTogether 35 = .ok (.iinc 2 1, 3) := by decide +kernel
theorem dX3_loseTogether_38 : decode cX3_loseTogether 38 = .ok (.goto (-32), 3) := by decide +kernel
theorem dX3_loseTogether_41 : decode cX3_loseTogether 41 = .ok (.return_, 1) := by decide +kernel
theorem dX3_loseAlone_0 : decode cX3_loseAlone 0 = .ok (.aload_n 0, 1) := by decide +kernel
theorem dX3_loseAlone_1 : decode cX3_loseAlone 1 = .ok (.invokevirtual 22, 3) := by decide +kernel
theorem dX3_loseAlone_4 : decode cX3_loseAlone 4 = .ok (.aload_n 0, 1) := by decide +kernel
theorem dX3_loseAlone_5 : decode cX3_loseAlone 5 = .ok (.iload_n 1, 1) := by decide +kernel
theorem dX3_loseAlone_6 : decode cX3_loseAlone 6 = .ok (.iconst 0, 1) := by decide +kernel
theorem dX3_loseAlone_7 : decode cX3_loseAlone 7 = .ok (.iload_n 2, 1) := by decide +kernel
theorem dX3_loseAlone_8 : decode cX3_loseAlone 8 = .ok (.invokevirtual 37, 3) := by decide +kernel
theorem dX3_loseAlone_11 : decode cX3_loseAlone 11 = .ok (.aload_n 0, 1) := by decide +kernel
theorem dX3_loseAlone_12 : decode cX3_loseAlone 12 = .ok (.getfield 18, 3) := by decide +kernel
theorem dX3_loseAlone_15 : decode cX3_loseAlone 15 = .ok (.iload_n 1, 1) := by decide +kernel
theorem dX3_loseAlone_16 : decode cX3_loseAlone 16 = .ok (.invokevirtual 54, 3) := by decide +kernel
theorem dX3_loseAlone_19 : decode cX3_loseAlone 19 = .ok (.ifCond .eq 12, 3) := by decide +kernel
theorem dX3_loseAlone_22 : decode cX3_loseAlone 22 = .ok (.aload_n 0, 1) := by decide +kernel
theorem dX3_loseAlone_23 : decode cX3_loseAlone 23 = .ok (.getfield 15, 3) := by decide +kernel
theorem dX3_loseAlone_26 : decode cX3_loseAlone 26 = .ok (.iload_n 1, 1) := by decide +kernel
theorem dX3_loseAlone_27 : decode cX3_loseAlone 27 = .ok (.iaload, 1) := by decide +kernel
theorem dX3_loseAlone_28 : decode cX3_loseAlone 28 = .ok (.goto 4, 3) := by decide +kernel
theorem dX3_loseAlone_31 : decode cX3_loseAlone 31 = .ok (.iconst 0, 1) := by decide +kernel
theorem dX3_loseAlone_32 : decode cX3_loseAlone 32 = .ok (.ireturn, 1) := by decide +kernel
theorem dX3_begin_0 : decode cX3_begin 0 = .ok (.aload_n 0, 1) := by decide +kernel
theorem dX3_begin_1 : decode cX3_begin 1 = .ok (.getfield 18, 3) := by decide +kernel
theorem dX3_begin_4 : decode cX3_begin 4 = .ok (.getfield 57, 3) := by decide +kernel
theorem dX3_begin_7 : decode cX3_begin 7 = .ok (.iconst 0, 1) := by decide +kernel
theorem dX3_begin_8 : decode cX3_begin 8 = .ok (.aload_n 0, 1) := by decide +kernel
theorem dX3_begin_9 : decode cX3_begin 9 = .ok (.getfield 9, 3) := by decide +kernel
theorem dX3_begin_12 : decode cX3_begin 12 = .ok (.iconst 0, 1) := by decide +kernel
theorem dX3_begin_13 : decode cX3_begin 13 = .ok (.bipush 8, 2) := by decide +kernel
theorem dX3_begin_15 : decode cX3_begin 15 = .ok (.invokestatic 60, 3) := by decide +kernel
theorem dX3_begin_18 : decode cX3_begin 18 = .ok (.aload_n 0, 1) := by decide +kernel
theorem dX3_begin_19 : decode cX3_begin 19 = .ok (.getfield 15, 3) := by decide +kernel
theorem dX3_begin_22 : decode cX3_begin 22 = .ok (.iconst 0, 1) := by decide +kernel
theorem dX3_begin_23 : decode cX3_begin 23 = .ok (.invokestatic 66, 3) := by decide +kernel
theorem dX3_begin_26 : decode cX3_begin 26 = .ok (.aload_n 0, 1) := by decide +kernel
theorem dX3_begin_27 : decode cX3_begin 27 = .ok (.iconst 0, 1) := by decide +kernel
theorem dX3_begin_28 : decode cX3_begin 28 = .ok (.putfield 72, 3) := by decide +kernel
theorem dX3_begin_31 : decode cX3_begin 31 = .ok (.aload_n 0, 1) := by decide +kernel
theorem dX3_begin_32 : decode cX3_begin 32 = .ok (.iconst 0, 1) := by decide +kernel
theorem dX3_begin_33 : decode cX3_begin 33 = .ok (.putfield 75, 3) := by decide +kernel
theorem dX3_begin_36 : decode cX3_begin 36 = .ok (.aload_n 0, 1) := by decide +kernel
theorem dX3_begin_37 : decode cX3_begin 37 = .ok (.iconst (-1), 1) := by decide +kernel
theorem dX3_begin_38 : decode cX3_begin 38 = .ok (.putfield 78, 3) := by decide +kernel
theorem dX3_begin_41 : decode cX3_begin 41 = .ok (.aload_n 0, 1) := by decide +kernel
theorem dX3_begin_42 : decode cX3_begin 42 = .ok (.iconst (-1), 1) := by decide +kernel
theorem dX3_begin_43 : decode cX3_begin 43 = .ok (.putfield 81, 3) := by decide +kernel
theorem dX3_begin_46 : decode cX3_begin 46 = .ok (.return_, 1) := by decide +kernel
theorem dX3_isLost_0 : decode cX3_isLost 0 = .ok (.aload_n 0, 1) := by decide +kernel
theorem dX3_isLost_1 : decode cX3_isLost 1 = .ok (.getfield 72, 3) := by decide +kernel
theorem dX3_isLost_4 : decode cX3_isLost 4 = .ok (.iload_n 1, 1) := by decide +kernel
theorem dX3_isLost_5 : decode cX3_isLost 5 = .ok (.ishr, 1) := by decide +kernel
theorem dX3_isLost_6 : decode cX3_isLost 6 = .ok (.iconst 1, 1) := by decide +kernel
theorem dX3_isLost_7 : decode cX3_isLost 7 = .ok (.iand, 1) := by decide +kernel
theorem dX3_isLost_8 : decode cX3_isLost 8 = .ok (.iconst 1, 1) := by decide +kernel
theorem dX3_isLost_9 : decode cX3_isLost 9 = .ok (.if_icmp .ne 7, 3) := by decide +kernel
theorem dX3_isLost_12 : decode cX3_isLost 12 = .ok (.iconst 1, 1) := by decide +kernel
theorem dX3_isLost_13 : decode cX3_isLost 13 = .ok (.goto 4, 3) := by decide +kernel
theorem dX3_isLost_16 : decode cX3_isLost 16 = .ok (.iconst 0, 1) := by decide +kernel
theorem dX3_isLost_17 : decode cX3_isLost 17 = .ok (.ireturn, 1) := by decide +kernel
theorem dX3_sink_0 : decode cX3_sink 0 = .ok (.aload_n 0, 1) := by decide +kernel
theorem dX3_sink_1 : decode cX3_sink 1 = .ok (.getfield 18, 3) := by decide +kernel
theorem dX3_sink_4 : decode cX3_sink 4 = .ok (.iload_n 1, 1) := by decide +kernel
theorem dX3_sink_5 : decode cX3_sink 5 = .ok (.invokevirtual 54, 3) := by decide +kernel
theorem dX3_sink_8 : decode cX3_sink 8 = .ok (.ifCond .eq 11, 3) := by decide +kernel
theorem dX3_sink_11 : decode cX3_sink 11 = .ok (.aload_n 0, 1) := by decide +kernel
theorem dX3_sink_12 : decode cX3_sink 12 = .ok (.iload_n 1, 1) := by decide +kernel
theorem dX3_sink_13 : decode cX3_sink 13 = .ok (.invokevirtual 46, 3) := by decide +kernel
theorem dX3_sink_16 : decode cX3_sink 16 = .ok (.ifCond .eq 4, 3) := by decide +kernel
theorem dX3_sink_19 : decode cX3_sink 19 = .ok (.return_, 1) := by decide +kernel
theorem dX3_sink_20 : decode cX3_sink 20 = .ok (.aload_n 0, 1) := by decide +kernel
theorem dX3_sink_21 : decode cX3_sink 21 = .ok (.dup, 1) := by decide +kernel
theorem dX3_sink_22 : decode cX3_sink 22 = .ok (.getfield 72, 3) := by decide +kernel
theorem dX3_sink_25 : decode cX3_sink 25 = .ok (.iconst 1, 1) := by decide +kernel
theorem dX3_sink_26 : decode cX3_sink 26 = .ok (.iload_n 1, 1) := by decide +kernel
theorem dX3_sink_27 : decode cX3_sink 27 = .ok (.ishl, 1) := by decide +kernel
theorem dX3_sink_28 : decode cX3_sink 28 = .ok (.ior, 1) := by decide +kernel
theorem dX3_sink_29 : decode cX3_sink 29 = .ok (.putfield 72, 3) := by decide +kernel
theorem dX3_sink_32 : decode cX3_sink 32 = .ok (.iconst 0, 1) := by decide +kernel
theorem dX3_sink_33 : decode cX3_sink 33 = .ok (.istore 4, 2) := by decide +kernel
theorem dX3_sink_35 : decode cX3_sink 35 = .ok (.iload 4, 2) := by decide +kernel
theorem dX3_sink_37 : decode cX3_sink 37 = .ok (.aload_n 0, 1) := by decide +kernel
theorem dX3_sink_38 : decode cX3_sink 38 = .ok (.getfield 18, 3) := by decide +kernel
theorem dX3_sink_41 : decode cX3_sink 41 = .ok (.getfield 84, 3) := by decide +kernel
theorem dX3_sink_44 : decode cX3_sink 44 = .ok (.if_icmp .ge 134, 3) := by decide +kernel
theorem dX3_sink_47 : decode cX3_sink 47 = .ok (.aload_n 0, 1) := by decide +kernel
theorem dX3_sink_48 : decode cX3_sink 48 = .ok (.getfield 18, 3) := by decide +kernel
theorem dX3_sink_51 : decode cX3_sink 51 = .ok (.getfield 87, 3) := by decide +kernel
theorem dX3_sink_54 : decode cX3_sink 54 = .ok (.iload 4, 2) := by decide +kernel
theorem dX3_sink_56 : decode cX3_sink 56 = .ok (.iaload, 1) := by decide +kernel
theorem dX3_sink_57 : decode cX3_sink 57 = .ok (.istore 5, 2) := by decide +kernel
theorem dX3_sink_59 : decode cX3_sink 59 = .ok (.aload_n 0, 1) := by decide +kernel
theorem dX3_sink_60 : decode cX3_sink 60 = .ok (.getfield 18, 3) := by decide +kernel
theorem dX3_sink_63 : decode cX3_sink 63 = .ok (.getfield 90, 3) := by decide +kernel
theorem dX3_sink_66 : decode cX3_sink 66 = .ok (.iload 4, 2) := by decide +kernel
theorem dX3_sink_68 : decode cX3_sink 68 = .ok (.iaload, 1) := by decide +kernel
theorem dX3_sink_69 : decode cX3_sink 69 = .ok (.iload_n 1, 1) := by decide +kernel
theorem dX3_sink_70 : decode cX3_sink 70 = .ok (.if_icmp .ne 102, 3) := by decide +kernel
theorem dX3_sink_73 : decode cX3_sink 73 = .ok (.aload_n 0, 1) := by decide +kernel
theorem dX3_sink_74 : decode cX3_sink 74 = .ok (.getfield 18, 3) := by decide +kernel
theorem dX3_sink_77 : decode cX3_sink 77 = .ok (.iload 5, 2) := by decide +kernel
theorem dX3_sink_79 : decode cX3_sink 79 = .ok (.invokevirtual 93, 3) := by decide +kernel
theorem dX3_sink_82 : decode cX3_sink 82 = .ok (.ifCond .eq 90, 3) := by decide +kernel
theorem dX3_sink_85 : decode cX3_sink 85 = .ok (.iload_n 3, 1) := by decide +kernel
theorem dX3_sink_86 : decode cX3_sink 86 = .ok (.iload 5, 2) := by decide +kernel
theorem dX3_sink_88 : decode cX3_sink 88 = .ok (.ishr, 1) := by decide +kernel
theorem dX3_sink_89 : decode cX3_sink 89 = .ok (.iconst 1, 1) := by decide +kernel
theorem dX3_sink_90 : decode cX3_sink 90 = .ok (.iand, 1) := by decide +kernel
theorem dX3_sink_91 : decode cX3_sink 91 = .ok (.ifCond .ne 6, 3) := by decide +kernel
theorem dX3_sink_94 : decode cX3_sink 94 = .ok (.goto 78, 3) := by decide +kernel
theorem dX3_sink_97 : decode cX3_sink 97 = .ok (.aload_n 0, 1) := by decide +kernel
theorem dX3_sink_98 : decode cX3_sink 98 = .ok (.getfield 18, 3) := by decide +kernel
theorem dX3_sink_101 : decode cX3_sink 101 = .ok (.getfield 96, 3) := by decide +kernel
theorem dX3_sink_104 : decode cX3_sink 104 = .ok (.iload 4, 2) := by decide +kernel
theorem dX3_sink_106 : decode cX3_sink 106 = .ok (.iaload, 1) := by decide +kernel
theorem dX3_sink_107 : decode cX3_sink 107 = .ok (.istore 6, 2) := by decide +kernel
theorem dX3_sink_109 : decode cX3_sink 109 = .ok (.iload 6, 2) := by decide +kernel
theorem dX3_sink_111 : decode cX3_sink 111 = .ok (.aload_n 0, 1) := by decide +kernel
theorem dX3_sink_112 : decode cX3_sink 112 = .ok (.getfield 9, 3) := by decide +kernel
theorem dX3_sink_115 : decode cX3_sink 115 = .ok (.iload 5, 2) := by decide +kernel
theorem dX3_sink_117 : decode cX3_sink 117 = .ok (.iaload, 1) := by decide +kernel
theorem dX3_sink_118 : decode cX3_sink 118 = .ok (.invokestatic 99, 3) := by decide +kernel
theorem dX3_sink_121 : decode cX3_sink 121 = .ok (.istore 7, 2) := by decide +kernel
theorem dX3_sink_123 : decode cX3_sink 123 = .ok (.aload_n 0, 1) := by decide +kernel
theorem dX3_sink_124 : decode cX3_sink 124 = .ok (.getfield 9, 3) := by decide +kernel
theorem dX3_sink_127 : decode cX3_sink 127 = .ok (.iload 5, 2) := by decide +kernel
theorem dX3_sink_129 : decode cX3_sink 129 = .ok (.dup2, 1) := by decide +kernel
theorem dX3_sink_130 : decode cX3_sink 130 = .ok (.iaload, 1) := by decide +kernel
theorem dX3_sink_131 : decode cX3_sink 131 = .ok (.iload 7, 2) := by decide +kernel
theorem dX3_sink_133 : decode cX3_sink 133 = .ok (.isub, 1) := by decide +kernel
theorem dX3_sink_134 : decode cX3_sink 134 = .ok (.iastore, 1) := by decide +kernel
theorem dX3_sink_135 : decode cX3_sink 135 = .ok (.aload_n 0, 1) := by decide +kernel
theorem dX3_sink_136 : decode cX3_sink 136 = .ok (.getfield 15, 3) := by decide +kernel
theorem dX3_sink_139 : decode cX3_sink 139 = .ok (.iload_n 1, 1) := by decide +kernel
theorem dX3_sink_140 : decode cX3_sink 140 = .ok (.dup2, 1) := by decide +kernel
theorem dX3_sink_141 : decode cX3_sink 141 = .ok (.iaload, 1) := by decide +kernel
theorem dX3_sink_142 : decode cX3_sink 142 = .ok (.iload 7, 2) := by decide +kernel
theorem dX3_sink_144 : decode cX3_sink 144 = .ok (.iadd, 1) := by decide +kernel
theorem dX3_sink_145 : decode cX3_sink 145 = .ok (.iastore, 1) := by decide +kernel
theorem dX3_sink_146 : decode cX3_sink 146 = .ok (.iload 7, 2) := by decide +kernel
theorem dX3_sink_148 : decode cX3_sink 148 = .ok (.iload 6, 2) := by decide +kernel
theorem dX3_sink_150 : decode cX3_sink 150 = .ok (.if_icmp .ge 22, 3) := by decide +kernel
theorem dX3_sink_153 : decode cX3_sink 153 = .ok (.aload_n 0, 1) := by decide +kernel
theorem dX3_sink_154 : decode cX3_sink 154 = .ok (.getfield 18, 3) := by decide +kernel
theorem dX3_sink_157 : decode cX3_sink 157 = .ok (.iload 5, 2) := by decide +kernel
theorem dX3_sink_159 : decode cX3_sink 159 = .ok (.invokevirtual 105, 3) := by decide +kernel
theorem dX3_sink_162 : decode cX3_sink 162 = .ok (.ifCond .ne 10, 3) := by decide +kernel
theorem dX3_sink_165 : decode cX3_sink 165 = .ok (.aload_n 0, 1) := by decide +kernel
theorem dX3_sink_166 : decode cX3_sink 166 = .ok (.iload 5, 2) := by decide +kernel
theorem dX3_sink_168 : decode cX3_sink 168 = .ok (.iload_n 2, 1) := by decide +kernel
theorem dX3_sink_169 : decode cX3_sink 169 = .ok (.invokevirtual 108, 3) := by decide +kernel
theorem dX3_sink_172 : decode cX3_sink 172 = .ok (.iinc 4 1, 3) := by decide +kernel
theorem dX3_sink_175 : decode cX3_sink 175 = .ok (.goto (-140), 3) := by decide +kernel
theorem dX3_sink_178 : decode cX3_sink 178 = .ok (.return_, 1) := by decide +kernel
theorem dX3_breakName_0 : decode cX3_breakName 0 = .ok (.aload_n 0, 1) := by decide +kernel
theorem dX3_breakName_1 : decode cX3_breakName 1 = .ok (.getfield 75, 3) := by decide +kernel
theorem dX3_breakName_4 : decode cX3_breakName 4 = .ok (.ifCond .ne 13, 3) := by decide +kernel
theorem dX3_breakName_7 : decode cX3_breakName 7 = .ok (.aload_n 0, 1) := by decide +kernel
theorem dX3_breakName_8 : decode cX3_breakName 8 = .ok (.iload_n 2, 1) := by decide +kernel
theorem dX3_breakName_9 : decode cX3_breakName 9 = .ok (.putfield 78, 3) := by decide +kernel
theorem dX3_breakName_12 : decode cX3_breakName 12 = .ok (.aload_n 0, 1) := by decide +kernel
theorem dX3_breakName_13 : decode cX3_breakName 13 = .ok (.iload_n 1, 1) := by decide +kernel
theorem dX3_breakName_14 : decode cX3_breakName 14 = .ok (.putfield 81, 3) := by decide +kernel
theorem dX3_breakName_17 : decode cX3_breakName 17 = .ok (.aload_n 0, 1) := by decide +kernel
theorem dX3_breakName_18 : decode cX3_breakName 18 = .ok (.dup, 1) := by decide +kernel
theorem dX3_breakName_19 : decode cX3_breakName 19 = .ok (.getfield 75, 3) := by decide +kernel
theorem dX3_breakName_22 : decode cX3_breakName 22 = .ok (.iconst 1, 1) := by decide +kernel
theorem dX3_breakName_23 : decode cX3_breakName 23 = .ok (.iload_n 1, 1) := by decide +kernel
theorem dX3_breakName_24 : decode cX3_breakName 24 = .ok (.ishl, 1) := by decide +kernel
theorem dX3_breakName_25 : decode cX3_breakName 25 = .ok (.ior, 1) := by decide +kernel
theorem dX3_breakName_26 : decode cX3_breakName 26 = .ok (.putfield 75, 3) := by decide +kernel
theorem dX3_breakName_29 : decode cX3_breakName 29 = .ok (.return_, 1) := by decide +kernel
theorem dX4_init_0 : decode cX4_init 0 = .ok (.aload_n 0, 1) := by decide +kernel
theorem dX4_init_1 : decode cX4_init 1 = .ok (.invokespecial 3, 3) := by decide +kernel
theorem dX4_init_4 : decode cX4_init 4 = .ok (.aload_n 0, 1) := by decide +kernel
theorem dX4_init_5 : decode cX4_init 5 = .ok (.bipush 60, 2) := by decide +kernel
theorem dX4_init_7 : decode cX4_init 7 = .ok (.newarray .int, 2) := by decide +kernel
theorem dX4_init_9 : decode cX4_init 9 = .ok (.putfield 9, 3) := by decide +kernel
theorem dX4_init_12 : decode cX4_init 12 = .ok (.aload_n 0, 1) := by decide +kernel
theorem dX4_init_13 : decode cX4_init 13 = .ok (.iconst 1, 1) := by decide +kernel
theorem dX4_init_14 : decode cX4_init 14 = .ok (.putfield 15, 3) := by decide +kernel
theorem dX4_init_17 : decode cX4_init 17 = .ok (.return_, 1) := by decide +kernel
theorem dX4_renew_0 : decode cX4_renew 0 = .ok (.aload_n 0, 1) := by decide +kernel
theorem dX4_renew_1 : decode cX4_renew 1 = .ok (.getfield 9, 3) := by decide +kernel
theorem dX4_renew_4 : decode cX4_renew 4 = .ok (.iconst 0, 1) := by decide +kernel
theorem dX4_renew_5 : decode cX4_renew 5 = .ok (.invokestatic 19, 3) := by decide +kernel
theorem dX4_renew_8 : decode cX4_renew 8 = .ok (.aload_n 0, 1) := by decide +kernel
theorem dX4_renew_9 : decode cX4_renew 9 = .ok (.iconst 0, 1) := by decide +kernel
theorem dX4_renew_10 : decode cX4_renew 10 = .ok (.putfield 15, 3) := by decide +kernel
theorem dX4_renew_13 : decode cX4_renew 13 = .ok (.aload_n 0, 1) := by decide +kernel
theorem dX4_renew_14 : decode cX4_renew 14 = .ok (.iload_n 1, 1) := by decide +kernel
theorem dX4_renew_15 : decode cX4_renew 15 = .ok (.putfield 25, 3) := by decide +kernel
theorem dX4_renew_18 : decode cX4_renew 18 = .ok (.aload_n 0, 1) := by decide +kernel
theorem dX4_renew_19 : decode cX4_renew 19 = .ok (.iload_n 2, 1) := by decide +kernel
theorem dX4_renew_20 : decode cX4_renew 20 = .ok (.putfield 29, 3) := by decide +kernel
theorem dX4_renew_23 : decode cX4_renew 23 = .ok (.return_, 1) := by decide +kernel
theorem dX4_findingAt_0 : decode cX4_findingAt 0 = .ok (.aload_n 0, 1) := by decide +kernel
theorem dX4_findingAt_1 : decode cX4_findingAt 1 = .ok (.getfield 15, 3) := by decide +kernel
theorem dX4_findingAt_4 : decode cX4_findingAt 4 = .ok (.ifCond .eq 5, 3) := by decide +kernel
theorem dX4_findingAt_7 : decode cX4_findingAt 7 = .ok (.iconst 1, 1) := by decide +kernel
theorem dX4_findingAt_8 : decode cX4_findingAt 8 = .ok (.ireturn, 1) := by decide +kernel
theorem dX4_findingAt_9 : decode cX4_findingAt 9 = .ok (.aload_n 0, 1) := by decide +kernel
theorem dX4_findingAt_10 : decode cX4_findingAt 10 = .ok (.getfield 25, 3) := by decide +kernel
theorem dX4_findingAt_13 : decode cX4_findingAt 13 = .ok (.iload_n 1, 1) := by decide +kernel
theorem dX4_findingAt_14 : decode cX4_findingAt 14 = .ok (.if_icmp .eq 5, 3) := by decide +kernel
theorem dX4_findingAt_17 : decode cX4_findingAt 17 = .ok (.iconst 3, 1) := by decide +kernel
theorem dX4_findingAt_18 : decode cX4_findingAt 18 = .ok (.ireturn, 1) := by decide +kernel
theorem dX4_findingAt_19 : decode cX4_findingAt 19 = .ok (.iload_n 2, 1) := by decide +kernel
theorem dX4_findingAt_20 : decode cX4_findingAt 20 = .ok (.ifCond .lt 15, 3) := by decide +kernel
theorem dX4_findingAt_23 : decode cX4_findingAt 23 = .ok (.iload_n 2, 1) := by decide +kernel
theorem dX4_findingAt_24 : decode cX4_findingAt 24 = .ok (.aload_n 0, 1) := by decide +kernel
theorem dX4_findingAt_25 : decode cX4_findingAt 25 = .ok (.getfield 29, 3) := by decide +kernel
theorem dX4_findingAt_28 : decode cX4_findingAt 28 = .ok (.if_icmp .ge 7, 3) := by decide +kernel
theorem dX4_findingAt_31 : decode cX4_findingAt 31 = .ok (.iconst 0, 1) := by decide +kernel
theorem dX4_findingAt_32 : decode cX4_findingAt 32 = .ok (.goto 4, 3) := by decide +kernel
theorem dX4_findingAt_35 : decode cX4_findingAt 35 = .ok (.iconst 2, 1) := by decide +kernel
theorem dX4_findingAt_36 : decode cX4_findingAt 36 = .ok (.ireturn, 1) := by decide +kernel
theorem dX4_hasRange_0 : decode cX4_hasRange 0 = .ok (.iload_n 1, 1) := by decide +kernel
theorem dX4_hasRange_1 : decode cX4_hasRange 1 = .ok (.ifCond .lt 29, 3) := by decide +kernel
theorem dX4_hasRange_4 : decode cX4_hasRange 4 = .ok (.iload_n 2, 1) := by decide +kernel
theorem dX4_hasRange_5 : decode cX4_hasRange 5 = .ok (.ifCond .lt 25, 3) := by decide +kernel
theorem dX4_hasRange_8 : decode cX4_hasRange 8 = .ok (.iload_n 1, 1) := by decide +kernel
theorem dX4_hasRange_9 : decode cX4_hasRange 9 = .ok (.aload_n 0, 1) := by decide +kernel
theorem dX4_hasRange_10 : decode cX4_hasRange 10 = .ok (.getfield 29, 3) := by decide +kernel
theorem dX4_hasRange_13 : decode cX4_hasRange 13 = .ok (.if_icmp .gt 17, 3) := by decide +kernel
theorem dX4_hasRange_16 : decode cX4_hasRange 16 = .ok (.iload_n 2, 1) := by decide +kernel
theorem dX4_hasRange_17 : decode cX4_hasRange 17 = .ok (.aload_n 0, 1) := by decide +kernel
theorem dX4_hasRange_18 : decode cX4_hasRange 18 = .ok (.getfield 29, 3) := by decide +kernel
theorem dX4_hasRange_21 : decode cX4_hasRange 21 = .ok (.iload_n 1, 1) := by decide +kernel
theorem dX4_hasRange_22 : decode cX4_hasRange 22 = .ok (.isub, 1) := by decide +kernel
theorem dX4_hasRange_23 : decode cX4_hasRange 23 = .ok (.if_icmp .gt 7, 3) := by decide +kernel
theorem dX4_hasRange_26 : decode cX4_hasRange 26 = .ok (.iconst 1, 1) := by decide +kernel
theorem dX4_hasRange_27 : decode cX4_hasRange 27 = .ok (.goto 4, 3) := by decide +kernel
theorem dX4_hasRange_30 : decode cX4_hasRange 30 = .ok (.iconst 0, 1) := by decide +kernel
theorem dX4_hasRange_31 : decode cX4_hasRange 31 = .ok (.ireturn, 1) := by decide +kernel
theorem dX4_put_0 : decode cX4_put 0 = .ok (.iload_n 1, 1) := by decide +kernel
theorem dX4_put_1 : decode cX4_put 1 = .ok (.ifCond .lt 22, 3) := by decide +kernel
theorem dX4_put_4 : decode cX4_put 4 = .ok (.iload_n 1, 1) := by decide +kernel
theorem dX4_put_5 : decode cX4_put 5 = .ok (.aload_n 0, 1) := by decide +kernel
theorem dX4_put_6 : decode cX4_put 6 = .ok (.getfield 29, 3) := by decide +kernel
theorem dX4_put_9 : decode cX4_put 9 = .ok (.if_icmp .ge 14, 3) := by decide +kernel
theorem dX4_put_12 : decode cX4_put 12 = .ok (.aload_n 0, 1) := by decide +kernel
theorem dX4_put_13 : decode cX4_put 13 = .ok (.getfield 9, 3) := by decide +kernel
theorem dX4_put_16 : decode cX4_put 16 = .ok (.iload_n 1, 1) := by decide +kernel
theorem dX4_put_17 : decode cX4_put 17 = .ok (.aload_n 0, 1) := by decide +kernel
theorem dX4_put_18 : decode cX4_put 18 = .ok (.iload_n 2, 1) := by decide +kernel
theorem dX4_put_19 : decode cX4_put 19 = .ok (.invokevirtual 32, 3) := by decide +kernel
theorem dX4_put_22 : decode cX4_put 22 = .ok (.iastore, 1) := by decide +kernel
theorem dX4_put_23 : decode cX4_put 23 = .ok (.return_, 1) := by decide +kernel
theorem dX4_narrowed_0 : decode cX4_narrowed 0 = .ok (.aload_n 0, 1) := by decide +kernel
theorem dX4_narrowed_1 : decode cX4_narrowed 1 = .ok (.getfield 25, 3) := by decide +kernel
theorem dX4_narrowed_4 : decode cX4_narrowed 4 = .ok (.lookupswitch 34 #[(0, 28), (1, 31)], 28) := by decide +kernel
theorem dX4_narrowed_32 : decode cX4_narrowed 32 = .ok (.iload_n 1, 1) := by decide +kernel
theorem dX4_narrowed_33 : decode cX4_narrowed 33 = .ok (.i2b, 1) := by decide +kernel
theorem dX4_narrowed_34 : decode cX4_narrowed 34 = .ok (.ireturn, 1) := by decide +kernel
theorem dX4_narrowed_35 : decode cX4_narrowed 35 = .ok (.iload_n 1, 1) := by decide +kernel
theorem dX4_narrowed_36 : decode cX4_narrowed 36 = .ok (.i2s, 1) := by decide +kernel
theorem dX4_narrowed_37 : decode cX4_narrowed 37 = .ok (.ireturn, 1) := by decide +kernel
theorem dX4_narrowed_38 : decode cX4_narrowed 38 = .ok (.iload_n 1, 1) := by decide +kernel
theorem dX4_narrowed_39 : decode cX4_narrowed 39 = .ok (.ireturn, 1) := by decide +kernel
theorem dX5_init_0 : decode cX5_init 0 = .ok (.aload_n 0, 1) := by decide +kernel
theorem dX5_init_1 : decode cX5_init 1 = .ok (.invokespecial 3, 3) := by decide +kernel
theorem dX5_init_4 : decode cX5_init 4 = .ok (.aload_n 0, 1) := by decide +kernel
theorem dX5_init_5 : decode cX5_init 5 = .ok (.aload_n 1, 1) := by decide +kernel
theorem dX5_init_6 : decode cX5_init 6 = .ok (.putfield 9, 3) := by decide +kernel
theorem dX5_init_9 : decode cX5_init 9 = .ok (.aload_n 0, 1) := by decide +kernel
theorem dX5_init_10 : decode cX5_init 10 = .ok (.aload_n 1, 1) := by decide +kernel
theorem dX5_init_11 : decode cX5_init 11 = .ok (.invokevirtual 15, 3) := by decide +kernel
theorem dX5_init_14 : decode cX5_init 14 = .ok (.iconst 1, 1) := by decide +kernel
theorem dX5_init_15 : decode cX5_init 15 = .ok (.iadd, 1) := by decide +kernel
theorem dX5_init_16 : decode cX5_init 16 = .ok (.putfield 21, 3) := by decide +kernel
theorem dX5_init_19 : decode cX5_init 19 = .ok (.aload_n 0, 1) := by decide +kernel
theorem dX5_init_20 : decode cX5_init 20 = .ok (.iload_n 2, 1) := by decide +kernel
theorem dX5_init_21 : decode cX5_init 21 = .ok (.aload_n 0, 1) := by decide +kernel
theorem dX5_init_22 : decode cX5_init 22 = .ok (.getfield 21, 3) := by decide +kernel
theorem dX5_init_25 : decode cX5_init 25 = .ok (.imul, 1) := by decide +kernel
theorem dX5_init_26 : decode cX5_init 26 = .ok (.iconst 1, 1) := by decide +kernel
theorem dX5_init_27 : decode cX5_init 27 = .ok (.isub, 1) := by decide +kernel
theorem dX5_init_28 : decode cX5_init 28 = .ok (.newarray .int, 2) := by decide +kernel
theorem dX5_init_30 : decode cX5_init 30 = .ok (.putfield 25, 3) := by decide +kernel
theorem dX5_init_33 : decode cX5_init 33 = .ok (.return_, 1) := by decide +kernel
theorem dX5_isFull_0 : decode cX5_isFull 0 = .ok (.aload_n 0, 1) := by decide +kernel
theorem dX5_isFull_1 : decode cX5_isFull 1 = .ok (.getfield 29, 3) := by decide +kernel
theorem dX5_isFull_4 : decode cX5_isFull 4 = .ok (.aload_n 0, 1) := by decide +kernel
theorem dX5_isFull_5 : decode cX5_isFull 5 = .ok (.getfield 25, 3) := by decide +kernel
theorem dX5_isFull_8 : decode cX5_isFull 8 = .ok (.arraylength, 1) := by decide +kernel
theorem dX5_isFull_9 : decode cX5_isFull 9 = .ok (.if_icmp .lt 7, 3) := by decide +kernel
theorem dX5_isFull_12 : decode cX5_isFull 12 = .ok (.iconst 1, 1) := by decide +kernel
theorem dX5_isFull_13 : decode cX5_isFull 13 = .ok (.goto 4, 3) := by decide +kernel
theorem dX5_isFull_16 : decode cX5_isFull 16 = .ok (.iconst 0, 1) := by decide +kernel
theorem dX5_isFull_17 : decode cX5_isFull 17 = .ok (.ireturn, 1) := by decide +kernel
theorem dX5_append_0 : decode cX5_append 0 = .ok (.aload_n 0, 1) := by decide +kernel
theorem dX5_append_1 : decode cX5_append 1 = .ok (.invokevirtual 31, 3) := by decide +kernel
theorem dX5_append_4 : decode cX5_append 4 = .ok (.ifCond .ne 23, 3) := by decide +kernel
theorem dX5_append_7 : decode cX5_append 7 = .ok (.aload_n 0, 1) := by decide +kernel
theorem dX5_append_8 : decode cX5_append 8 = .ok (.getfield 25, 3) := by decide +kernel
theorem dX5_append_11 : decode cX5_append 11 = .ok (.aload_n 0, 1) := by decide +kernel
theorem dX5_append_12 : decode cX5_append 12 = .ok (.getfield 29, 3) := by decide +kernel
theorem dX5_append_15 : decode cX5_append 15 = .ok (.iload_n 1, 1) := by decide +kernel
theorem dX5_append_16 : decode cX5_append 16 = .ok (.iastore, 1) := by decide +kernel
theorem dX5_append_17 : decode cX5_append 17 = .ok (.aload_n 0, 1) := by decide +kernel
theorem dX5_append_18 : decode cX5_append 18 = .ok (.dup, 1) := by decide +kernel
theorem dX5_append_19 : decode cX5_append 19 = .ok (.getfield 29, 3) := by decide +kernel
theorem dX5_append_22 : decode cX5_append 22 = .ok (.iconst 1, 1) := by decide +kernel
theorem dX5_append_23 : decode cX5_append 23 = .ok (.iadd, 1) := by decide +kernel
theorem dX5_append_24 : decode cX5_append 24 = .ok (.putfield 29, 3) := by decide +kernel
theorem dX5_append_27 : decode cX5_append 27 = .ok (.return_, 1) := by decide +kernel
theorem dX5_byteAt_0 : decode cX5_byteAt 0 = .ok (.iload_n 1, 1) := by decide +kernel
theorem dX5_byteAt_1 : decode cX5_byteAt 1 = .ok (.ifCond .lt 20, 3) := by decide +kernel
theorem dX5_byteAt_4 : decode cX5_byteAt 4 = .ok (.iload_n 1, 1) := by decide +kernel
theorem dX5_byteAt_5 : decode cX5_byteAt 5 = .ok (.aload_n 0, 1) := by decide +kernel
theorem dX5_byteAt_6 : decode cX5_byteAt 6 = .ok (.getfield 29, 3) := by decide +kernel
theorem dX5_byteAt_9 : decode cX5_byteAt 9 = .ok (.if_icmp .ge 12, 3) := by decide +kernel
theorem dX5_byteAt_12 : decode cX5_byteAt 12 = .ok (.aload_n 0, 1) := by decide +kernel
theorem dX5_byteAt_13 : decode cX5_byteAt 13 = .ok (.getfield 25, 3) := by decide +kernel
theorem dX5_byteAt_16 : decode cX5_byteAt 16 = .ok (.iload_n 1, 1) := by decide +kernel
theorem dX5_byteAt_17 : decode cX5_byteAt 17 = .ok (.iaload, 1) := by decide +kernel
theorem dX5_byteAt_18 : decode cX5_byteAt 18 = .ok (.goto 4, 3) := by decide +kernel
theorem dX5_byteAt_21 : decode cX5_byteAt 21 = .ok (.iconst 0, 1) := by decide +kernel
theorem dX5_byteAt_22 : decode cX5_byteAt 22 = .ok (.ireturn, 1) := by decide +kernel
theorem dX5_figureAt_0 : decode cX5_figureAt 0 = .ok (.aload_n 0, 1) := by decide +kernel
theorem dX5_figureAt_1 : decode cX5_figureAt 1 = .ok (.iload_n 1, 1) := by decide +kernel
theorem dX5_figureAt_2 : decode cX5_figureAt 2 = .ok (.invokevirtual 35, 3) := by decide +kernel
theorem dX5_figureAt_5 : decode cX5_figureAt 5 = .ok (.bipush 48, 2) := by decide +kernel
theorem dX5_figureAt_7 : decode cX5_figureAt 7 = .ok (.isub, 1) := by decide +kernel
theorem dX5_figureAt_8 : decode cX5_figureAt 8 = .ok (.ireturn, 1) := by decide +kernel
theorem dX5_figuresAt_0 : decode cX5_figuresAt 0 = .ok (.bipush 10, 2) := by decide +kernel
theorem dX5_figuresAt_2 : decode cX5_figuresAt 2 = .ok (.aload_n 0, 1) := by decide +kernel
theorem dX5_figuresAt_3 : decode cX5_figuresAt 3 = .ok (.iload_n 1, 1) := by decide +kernel
theorem dX5_figuresAt_4 : decode cX5_figuresAt 4 = .ok (.invokevirtual 39, 3) := by decide +kernel
theorem dX5_figuresAt_7 : decode cX5_figuresAt 7 = .ok (.imul, 1) := by decide +kernel
theorem dX5_figuresAt_8 : decode cX5_figuresAt 8 = .ok (.aload_n 0, 1) := by decide +kernel
theorem dX5_figuresAt_9 : decode cX5_figuresAt 9 = .ok (.iload_n 1, 1) := by decide +kernel
theorem dX5_figuresAt_10 : decode cX5_figuresAt 10 = .ok (.iconst 1, 1) := by decide +kernel
theorem dX5_figuresAt_11 : decode cX5_figuresAt 11 = .ok (.iadd, 1) := by decide +kernel
theorem dX5_figuresAt_12 : decode cX5_figuresAt 12 = .ok (.invokevirtual 39, 3) := by decide +kernel
theorem dX5_figuresAt_15 : decode cX5_figuresAt 15 = .ok (.iadd, 1) := by decide +kernel
theorem dX5_figuresAt_16 : decode cX5_figuresAt 16 = .ok (.ireturn, 1) := by decide +kernel
theorem dX5_faultPlace_0 : decode cX5_faultPlace 0 = .ok (.iconst 0, 1) := by decide +kernel
theorem dX5_faultPlace_1 : decode cX5_faultPlace 1 = .ok (.istore_n 1, 1) := by decide +kernel
theorem dX5_faultPlace_2 : decode cX5_faultPlace 2 = .ok (.iload_n 1, 1) := by decide +kernel
theorem dX5_faultPlace_3 : decode cX5_faultPlace 3 = .ok (.aload_n 0, 1) := by decide +kernel
theorem dX5_faultPlace_4 : decode cX5_faultPlace 4 = .ok (.getfield 29, 3) := by decide +kernel
theorem dX5_faultPlace_7 : decode cX5_faultPlace 7 = .ok (.if_icmp .ge 19, 3) := by decide +kernel
theorem dX5_faultPlace_10 : decode cX5_faultPlace 10 = .ok (.aload_n 0, 1) := by decide +kernel
theorem dX5_faultPlace_11 : decode cX5_faultPlace 11 = .ok (.iload_n 1, 1) := by decide +kernel
theorem dX5_faultPlace_12 : decode cX5_faultPlace 12 = .ok (.invokevirtual 42, 3) := by decide +kernel
theorem dX5_faultPlace_15 : decode cX5_faultPlace 15 = .ok (.ifCond .ne 5, 3) := by decide +kernel
theorem dX5_faultPlace_18 : decode cX5_faultPlace 18 = .ok (.iload_n 1, 1) := by decide +kernel
theorem dX5_faultPlace_19 : decode cX5_faultPlace 19 = .ok (.ireturn, 1) := by decide +kernel
theorem dX5_faultPlace_20 : decode cX5_faultPlace 20 = .ok (.iinc 1 1, 3) := by decide +kernel
theorem dX5_faultPlace_23 : decode cX5_faultPlace 23 = .ok (.goto (-21), 3) := by decide +kernel
theorem dX5_faultPlace_26 : decode cX5_faultPlace 26 = .ok (.aload_n 0, 1) := by decide +kernel
theorem dX5_faultPlace_27 : decode cX5_faultPlace 27 = .ok (.getfield 29, 3) := by decide +kernel
theorem dX5_faultPlace_30 : decode cX5_faultPlace 30 = .ok (.ifCond .eq 17, 3) := by decide +kernel
theorem dX5_faultPlace_33 : decode cX5_faultPlace 33 = .ok (.aload_n 0, 1) := by decide +kernel
theorem dX5_faultPlace_34 : decode cX5_faultPlace 34 = .ok (.getfield 29, 3) := by decide +kernel
theorem dX5_faultPlace_37 : decode cX5_faultPlace 37 = .ok (.iconst 1, 1) := by decide +kernel
theorem dX5_faultPlace_38 : decode cX5_faultPlace 38 = .ok (.iadd, 1) := by decide +kernel
theorem dX5_faultPlace_39 : decode cX5_faultPlace 39 = .ok (.aload_n 0, 1) := by decide +kernel
theorem dX5_faultPlace_40 : decode cX5_faultPlace 40 = .ok (.getfield 21, 3) := by decide +kernel
theorem dX5_faultPlace_43 : decode cX5_faultPlace 43 = .ok (.irem, 1) := by decide +kernel
theorem dX5_faultPlace_44 : decode cX5_faultPlace 44 = .ok (.ifCond .ne 7, 3) := by decide +kernel
theorem dX5_faultPlace_47 : decode cX5_faultPlace 47 = .ok (.iconst (-1), 1) := by decide +kernel
theorem dX5_faultPlace_48 : decode cX5_faultPlace 48 = .ok (.goto 7, 3) := by decide +kernel
theorem dX5_faultPlace_51 : decode cX5_faultPlace 51 = .ok (.aload_n 0, 1) := by decide +kernel
theorem dX5_faultPlace_52 : decode cX5_faultPlace 52 = .ok (.getfield 29, 3) := by decide +kernel
theorem dX5_faultPlace_55 : decode cX5_faultPlace 55 = .ok (.ireturn, 1) := by decide +kernel
theorem dX5_items_0 : decode cX5_items 0 = .ok (.aload_n 0, 1) := by decide +kernel
theorem dX5_items_1 : decode cX5_items 1 = .ok (.invokevirtual 46, 3) := by decide +kernel
theorem dX5_items_4 : decode cX5_items 4 = .ok (.iconst (-1), 1) := by decide +kernel
theorem dX5_items_5 : decode cX5_items 5 = .ok (.if_icmp .ne 17, 3) := by decide +kernel
theorem dX5_items_8 : decode cX5_items 8 = .ok (.aload_n 0, 1) := by decide +kernel
theorem dX5_items_9 : decode cX5_items 9 = .ok (.getfield 29, 3) := by decide +kernel
theorem dX5_items_12 : decode cX5_items 12 = .ok (.iconst 1, 1) := by decide +kernel
theorem dX5_items_13 : decode cX5_items 13 = .ok (.iadd, 1) := by decide +kernel
theorem dX5_items_14 : decode cX5_items 14 = .ok (.aload_n 0, 1) := by decide +kernel
theorem dX5_items_15 : decode cX5_items 15 = .ok (.getfield 21, 3) := by decide +kernel
theorem dX5_items_18 : decode cX5_items 18 = .ok (.idiv, 1) := by decide +kernel
theorem dX5_items_19 : decode cX5_items 19 = .ok (.goto 4, 3) := by decide +kernel
theorem dX5_items_22 : decode cX5_items 22 = .ok (.iconst 0, 1) := by decide +kernel
theorem dX5_items_23 : decode cX5_items 23 = .ok (.ireturn, 1) := by decide +kernel
theorem dX5_goesOnAt_0 : decode cX5_goesOnAt 0 = .ok (.aload_n 0, 1) := by decide +kernel
theorem dX5_goesOnAt_1 : decode cX5_goesOnAt 1 = .ok (.iload_n 1, 1) := by decide +kernel
theorem dX5_goesOnAt_2 : decode cX5_goesOnAt 2 = .ok (.invokevirtual 35, 3) := by decide +kernel
theorem dX5_goesOnAt_5 : decode cX5_goesOnAt 5 = .ok (.istore_n 2, 1) := by decide +kernel
theorem dX5_goesOnAt_6 : decode cX5_goesOnAt 6 = .ok (.iload_n 1, 1) := by decide +kernel
theorem dX5_goesOnAt_7 : decode cX5_goesOnAt 7 = .ok (.aload_n 0, 1) := by decide +kernel
theorem dX5_goesOnAt_8 : decode cX5_goesOnAt 8 = .ok (.getfield 21, 3) := by decide +kernel
theorem dX5_goesOnAt_11 : decode cX5_goesOnAt 11 = .ok (.irem, 1) := by decide +kernel
theorem dX5_goesOnAt_12 : decode cX5_goesOnAt 12 = .ok (.istore_n 3, 1) := by decide +kernel
theorem dX5_goesOnAt_13 : decode cX5_goesOnAt 13 = .ok (.iload_n 3, 1) := by decide +kernel
theorem dX5_goesOnAt_14 : decode cX5_goesOnAt 14 = .ok (.aload_n 0, 1) := by decide +kernel
theorem dX5_goesOnAt_15 : decode cX5_goesOnAt 15 = .ok (.getfield 9, 3) := by decide +kernel
theorem dX5_goesOnAt_18 : decode cX5_goesOnAt 18 = .ok (.invokevirtual 15, 3) := by decide +kernel
theorem dX5_goesOnAt_21 : decode cX5_goesOnAt 21 = .ok (.if_icmp .lt 15, 3) := by decide +kernel
theorem dX5_goesOnAt_24 : decode cX5_goesOnAt 24 = .ok (.iload_n 2, 1) := by decide +kernel
theorem dX5_goesOnAt_25 : decode cX5_goesOnAt 25 = .ok (.bipush 59, 2) := by decide +kernel
theorem dX5_goesOnAt_27 : decode cX5_goesOnAt 27 = .ok (.if_icmp .ne 7, 3) := by decide +kernel
theorem dX5_goesOnAt_30 : decode cX5_goesOnAt 30 = .ok (.iconst 1, 1) := by decide +kernel
theorem dX5_goesOnAt_31 : decode cX5_goesOnAt 31 = .ok (.goto 4, 3) := by decide +kernel
theorem dX5_goesOnAt_34 : decode cX5_goesOnAt 34 = .ok (.iconst 0, 1) := by decide +kernel
theorem dX5_goesOnAt_35 : decode cX5_goesOnAt 35 = .ok (.ireturn, 1) := by decide +kernel
theorem dX5_goesOnAt_36 : decode cX5_goesOnAt 36 = .ok (.aload_n 0, 1) := by decide +kernel
theorem dX5_goesOnAt_37 : decode cX5_goesOnAt 37 = .ok (.getfield 9, 3) := by decide +kernel
theorem dX5_goesOnAt_40 : decode cX5_goesOnAt 40 = .ok (.iload_n 3, 1) := by decide +kernel
theorem dX5_goesOnAt_41 : decode cX5_goesOnAt 41 = .ok (.invokevirtual 49, 3) := by decide +kernel
theorem dX5_goesOnAt_44 : decode cX5_goesOnAt 44 = .ok (.lookupswitch 163 #[(46, 140), (49, 69), (53, 104), (57, 60), (97, 113), (108, 122)], 60) := by decide +kernel
theorem dX5_goesOnAt_104 : decode cX5_goesOnAt 104 = .ok (.iload_n 2, 1) := by decide +kernel
theorem dX5_goesOnAt_105 : decode cX5_goesOnAt 105 = .ok (.bipush 48, 2) := by decide +kernel
theorem dX5_goesOnAt_107 : decode cX5_goesOnAt 107 = .ok (.bipush 57, 2) := by decide +kernel
theorem dX5_goesOnAt_109 : decode cX5_goesOnAt 109 = .ok (.invokestatic 53, 3) := by decide +kernel
theorem dX5_goesOnAt_112 : decode cX5_goesOnAt 112 = .ok (.ireturn, 1) := by decide +kernel
theorem dX5_goesOnAt_113 : decode cX5_goesOnAt 113 = .ok (.iload_n 2, 1) := by decide +kernel
theorem dX5_goesOnAt_114 : decode cX5_goesOnAt 114 = .ok (.bipush 48, 2) := by decide +kernel
theorem dX5_goesOnAt_116 : decode cX5_goesOnAt 116 = .ok (.bipush 57, 2) := by decide +kernel
theorem dX5_goesOnAt_118 : decode cX5_goesOnAt 118 = .ok (.invokestatic 53, 3) := by decide +kernel
theorem dX5_goesOnAt_121 : decode cX5_goesOnAt 121 = .ok (.ifCond .eq 25, 3) := by decide +kernel
theorem dX5_goesOnAt_124 : decode cX5_goesOnAt 124 = .ok (.iload_n 2, 1) := by decide +kernel
theorem dX5_goesOnAt_125 : decode cX5_goesOnAt 125 = .ok (.bipush 48, 2) := by decide +kernel
theorem dX5_goesOnAt_127 : decode cX5_goesOnAt 127 = .ok (.if_icmp .ne 15, 3) := by decide +kernel
theorem dX5_goesOnAt_130 : decode cX5_goesOnAt 130 = .ok (.aload_n 0, 1) := by decide +kernel
theorem dX5_goesOnAt_131 : decode cX5_goesOnAt 131 = .ok (.iload_n 1, 1) := by decide +kernel
theorem dX5_goesOnAt_132 : decode cX5_goesOnAt 132 = .ok (.iconst 1, 1) := by decide +kernel
theorem dX5_goesOnAt_133 : decode cX5_goesOnAt 133 = .ok (.isub, 1) := by decide +kernel
theorem dX5_goesOnAt_134 : decode cX5_goesOnAt 134 = .ok (.invokevirtual 35, 3) := by decide +kernel
theorem dX5_goesOnAt_137 : decode cX5_goesOnAt 137 = .ok (.bipush 48, 2) := by decide +kernel
theorem dX5_goesOnAt_139 : decode cX5_goesOnAt 139 = .ok (.if_icmp .eq 7, 3) := by decide +kernel
theorem dX5_goesOnAt_142 : decode cX5_goesOnAt 142 = .ok (.iconst 1, 1) := by decide +kernel
theorem dX5_goesOnAt_143 : decode cX5_goesOnAt 143 = .ok (.goto 4, 3) := by decide +kernel
theorem dX5_goesOnAt_146 : decode cX5_goesOnAt 146 = .ok (.iconst 0, 1) := by decide +kernel
theorem dX5_goesOnAt_147 : decode cX5_goesOnAt 147 = .ok (.ireturn, 1) := by decide +kernel
theorem dX5_goesOnAt_148 : decode cX5_goesOnAt 148 = .ok (.iload_n 2, 1) := by decide +kernel
theorem dX5_goesOnAt_149 : decode cX5_goesOnAt 149 = .ok (.bipush 48, 2) := by decide +kernel
theorem dX5_goesOnAt_151 : decode cX5_goesOnAt 151 = .ok (.bipush 53, 2) := by decide +kernel
theorem dX5_goesOnAt_153 : decode cX5_goesOnAt 153 = .ok (.invokestatic 53, 3) := by decide +kernel
theorem dX5_goesOnAt_156 : decode cX5_goesOnAt 156 = .ok (.ireturn, 1) := by decide +kernel
theorem dX5_goesOnAt_157 : decode cX5_goesOnAt 157 = .ok (.iload_n 2, 1) := by decide +kernel
theorem dX5_goesOnAt_158 : decode cX5_goesOnAt 158 = .ok (.bipush 97, 2) := by decide +kernel
theorem dX5_goesOnAt_160 : decode cX5_goesOnAt 160 = .ok (.bipush 104, 2) := by decide +kernel
theorem dX5_goesOnAt_162 : decode cX5_goesOnAt 162 = .ok (.invokestatic 53, 3) := by decide +kernel
theorem dX5_goesOnAt_165 : decode cX5_goesOnAt 165 = .ok (.ireturn, 1) := by decide +kernel
theorem dX5_goesOnAt_166 : decode cX5_goesOnAt 166 = .ok (.iload_n 2, 1) := by decide +kernel
theorem dX5_goesOnAt_167 : decode cX5_goesOnAt 167 = .ok (.bipush 108, 2) := by decide +kernel
theorem dX5_goesOnAt_169 : decode cX5_goesOnAt 169 = .ok (.if_icmp .eq 9, 3) := by decide +kernel
theorem dX5_goesOnAt_172 : decode cX5_goesOnAt 172 = .ok (.iload_n 2, 1) := by decide +kernel
theorem dX5_goesOnAt_173 : decode cX5_goesOnAt 173 = .ok (.bipush 100, 2) := by decide +kernel
theorem dX5_goesOnAt_175 : decode cX5_goesOnAt 175 = .ok (.if_icmp .ne 7, 3) := by decide +kernel
theorem dX5_goesOnAt_178 : decode cX5_goesOnAt 178 = .ok (.iconst 1, 1) := by decide +kernel
theorem dX5_goesOnAt_179 : decode cX5_goesOnAt 179 = .ok (.goto 4, 3) := by decide +kernel
theorem dX5_goesOnAt_182 : decode cX5_goesOnAt 182 = .ok (.iconst 0, 1) := by decide +kernel
theorem dX5_goesOnAt_183 : decode cX5_goesOnAt 183 = .ok (.ireturn, 1) := by decide +kernel
theorem dX5_goesOnAt_184 : decode cX5_goesOnAt 184 = .ok (.iload_n 2, 1) := by decide +kernel
theorem dX5_goesOnAt_185 : decode cX5_goesOnAt 185 = .ok (.bipush 46, 2) := by decide +kernel
theorem dX5_goesOnAt_187 : decode cX5_goesOnAt 187 = .ok (.if_icmp .eq 14, 3) := by decide +kernel
theorem dX5_goesOnAt_190 : decode cX5_goesOnAt 190 = .ok (.iload_n 2, 1) := by decide +kernel
theorem dX5_goesOnAt_191 : decode cX5_goesOnAt 191 = .ok (.bipush 97, 2) := by decide +kernel
theorem dX5_goesOnAt_193 : decode cX5_goesOnAt 193 = .ok (.bipush 104, 2) := by decide +kernel
theorem dX5_goesOnAt_195 : decode cX5_goesOnAt 195 = .ok (.invokestatic 53, 3) := by decide +kernel
theorem dX5_goesOnAt_198 : decode cX5_goesOnAt 198 = .ok (.ifCond .eq 7, 3) := by decide +kernel
theorem dX5_goesOnAt_201 : decode cX5_goesOnAt 201 = .ok (.iconst 1, 1) := by decide +kernel
theorem dX5_goesOnAt_202 : decode cX5_goesOnAt 202 = .ok (.goto 4, 3) := by decide +kernel
theorem dX5_goesOnAt_205 : decode cX5_goesOnAt 205 = .ok (.iconst 0, 1) := by decide +kernel
theorem dX5_goesOnAt_206 : decode cX5_goesOnAt 206 = .ok (.ireturn, 1) := by decide +kernel
theorem dX5_goesOnAt_207 : decode cX5_goesOnAt 207 = .ok (.iconst 0, 1) := by decide +kernel
theorem dX5_goesOnAt_208 : decode cX5_goesOnAt 208 = .ok (.ireturn, 1) := by decide +kernel
theorem dX5_isBetween_0 : decode cX5_isBetween 0 = .ok (.iload_n 0, 1) := by decide +kernel
theorem dX5_isBetween_1 : decode cX5_isBetween 1 = .ok (.iload_n 1, 1) := by decide +kernel
theorem dX5_isBetween_2 : decode cX5_isBetween 2 = .ok (.if_icmp .lt 12, 3) := by decide +kernel
theorem dX5_isBetween_5 : decode cX5_isBetween 5 = .ok (.iload_n 0, 1) := by decide +kernel
theorem dX5_isBetween_6 : decode cX5_isBetween 6 = .ok (.iload_n 2, 1) := by decide +kernel
theorem dX5_isBetween_7 : decode cX5_isBetween 7 = .ok (.if_icmp .gt 7, 3) := by decide +kernel
theorem dX5_isBetween_10 : decode cX5_isBetween 10 = .ok (.iconst 1, 1) := by decide +kernel
theorem dX5_isBetween_11 : decode cX5_isBetween 11 = .ok (.goto 4, 3) := by decide +kernel
theorem dX5_isBetween_14 : decode cX5_isBetween 14 = .ok (.iconst 0, 1) := by decide +kernel
theorem dX5_isBetween_15 : decode cX5_isBetween 15 = .ok (.ireturn, 1) := by decide +kernel
theorem dX6_init_0 : decode cX6_init 0 = .ok (.aload_n 0, 1) := by decide +kernel
theorem dX6_init_1 : decode cX6_init 1 = .ok (.invokespecial 3, 3) := by decide +kernel
theorem dX6_init_4 : decode cX6_init 4 = .ok (.aload_n 0, 1) := by decide +kernel
theorem dX6_init_5 : decode cX6_init 5 = .ok (.new 9, 3) := by decide +kernel
theorem dX6_init_8 : decode cX6_init 8 = .ok (.dup, 1) := by decide +kernel
theorem dX6_init_9 : decode cX6_init 9 = .ok (.ldc 11, 2) := by decide +kernel
theorem dX6_init_11 : decode cX6_init 11 = .ok (.bipush 6, 2) := by decide +kernel
theorem dX6_init_13 : decode cX6_init 13 = .ok (.invokespecial 13, 3) := by decide +kernel
theorem dX6_init_16 : decode cX6_init 16 = .ok (.putfield 16, 3) := by decide +kernel
theorem dX6_init_19 : decode cX6_init 19 = .ok (.aload_n 0, 1) := by decide +kernel
theorem dX6_init_20 : decode cX6_init 20 = .ok (.new 9, 3) := by decide +kernel
theorem dX6_init_23 : decode cX6_init 23 = .ok (.dup, 1) := by decide +kernel
theorem dX6_init_24 : decode cX6_init 24 = .ok (.ldc 20, 2) := by decide +kernel
theorem dX6_init_26 : decode cX6_init 26 = .ok (.bipush 8, 2) := by decide +kernel
theorem dX6_init_28 : decode cX6_init 28 = .ok (.invokespecial 13, 3) := by decide +kernel
theorem dX6_init_31 : decode cX6_init 31 = .ok (.putfield 22, 3) := by decide +kernel
theorem dX6_init_34 : decode cX6_init 34 = .ok (.aload_n 0, 1) := by decide +kernel
theorem dX6_init_35 : decode cX6_init 35 = .ok (.new 9, 3) := by decide +kernel
theorem dX6_init_38 : decode cX6_init 38 = .ok (.dup, 1) := by decide +kernel
theorem dX6_init_39 : decode cX6_init 39 = .ok (.ldc 25, 2) := by decide +kernel
theorem dX6_init_41 : decode cX6_init 41 = .ok (.bipush 12, 2) := by decide +kernel
theorem dX6_init_43 : decode cX6_init 43 = .ok (.invokespecial 13, 3) := by decide +kernel
theorem dX6_init_46 : decode cX6_init 46 = .ok (.putfield 27, 3) := by decide +kernel
theorem dX6_init_49 : decode cX6_init 49 = .ok (.aload_n 0, 1) := by decide +kernel
theorem dX6_init_50 : decode cX6_init 50 = .ok (.new 30, 3) := by decide +kernel
theorem dX6_init_53 : decode cX6_init 53 = .ok (.dup, 1) := by decide +kernel
theorem dX6_init_54 : decode cX6_init 54 = .ok (.bipush 12, 2) := by decide +kernel
theorem dX6_init_56 : decode cX6_init 56 = .ok (.invokespecial 32, 3) := by decide +kernel
theorem dX6_init_59 : decode cX6_init 59 = .ok (.putfield 35, 3) := by decide +kernel
theorem dX6_init_62 : decode cX6_init 62 = .ok (.aload_n 0, 1) := by decide +kernel
theorem dX6_init_63 : decode cX6_init 63 = .ok (.iconst 4, 1) := by decide +kernel
theorem dX6_init_64 : decode cX6_init 64 = .ok (.anewarray 39, 3) := by decide +kernel
