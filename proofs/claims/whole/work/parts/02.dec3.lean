theorem dX7_bearersOf_11 : decode cX7_bearersOf 11 = .ok (.if_icmp .ge 28, 3) := by decide +kernel
theorem dX7_bearersOf_14 : decode cX7_bearersOf 14 = .ok (.iload_n 2, 1) := by decide +kernel
theorem dX7_bearersOf_15 : decode cX7_bearersOf 15 = .ok (.aload_n 0, 1) := by decide +kernel
theorem dX7_bearersOf_16 : decode cX7_bearersOf 16 = .ok (.iload_n 3, 1) := by decide +kernel
theorem dX7_bearersOf_17 : decode cX7_bearersOf 17 = .ok (.invokevirtual 152, 3) := by decide +kernel
theorem dX7_bearersOf_20 : decode cX7_bearersOf 20 = .ok (.iload_n 1, 1) := by decide +kernel
theorem dX7_bearersOf_21 : decode cX7_bearersOf 21 = .ok (.if_icmp .ne 9, 3) := by decide +kernel
theorem dX7_bearersOf_24 : decode cX7_bearersOf 24 = .ok (.iconst 1, 1) := by decide +kernel
theorem dX7_bearersOf_25 : decode cX7_bearersOf 25 = .ok (.iload_n 3, 1) := by decide +kernel
theorem dX7_bearersOf_26 : decode cX7_bearersOf 26 = .ok (.ishl, 1) := by decide +kernel
theorem dX7_bearersOf_27 : decode cX7_bearersOf 27 = .ok (.goto 4, 3) := by decide +kernel
theorem dX7_bearersOf_30 : decode cX7_bearersOf 30 = .ok (.iconst 0, 1) := by decide +kernel
theorem dX7_bearersOf_31 : decode cX7_bearersOf 31 = .ok (.ior, 1) := by decide +kernel
theorem dX7_bearersOf_32 : decode cX7_bearersOf 32 = .ok (.istore_n 2, 1) := by decide +kernel
theorem dX7_bearersOf_33 : decode cX7_bearersOf 33 = .ok (.iinc 3 1, 3) := by decide +kernel
theorem dX7_bearersOf_36 : decode cX7_bearersOf 36 = .ok (.goto (-32), 3) := by decide +kernel
theorem dX7_bearersOf_39 : decode cX7_bearersOf 39 = .ok (.iload_n 2, 1) := by decide +kernel
theorem dX7_bearersOf_40 : decode cX7_bearersOf 40 = .ok (.ireturn, 1) := by decide +kernel
theorem dX7_bearerBy_0 : decode cX7_bearerBy 0 = .ok (.iload_n 2, 1) := by decide +kernel
theorem dX7_bearerBy_1 : decode cX7_bearerBy 1 = .ok (.ifCond .ne 11, 3) := by decide +kernel
theorem dX7_bearerBy_4 : decode cX7_bearerBy 4 = .ok (.aload_n 0, 1) := by decide +kernel
theorem dX7_bearerBy_5 : decode cX7_bearerBy 5 = .ok (.iload_n 1, 1) := by decide +kernel
theorem dX7_bearerBy_6 : decode cX7_bearerBy 6 = .ok (.invokevirtual 152, 3) := by decide +kernel
theorem dX7_bearerBy_9 : decode cX7_bearerBy 9 = .ok (.goto 30, 3) := by decide +kernel
theorem dX7_bearerBy_12 : decode cX7_bearerBy 12 = .ok (.iload_n 2, 1) := by decide +kernel
theorem dX7_bearerBy_13 : decode cX7_bearerBy 13 = .ok (.iconst 1, 1) := by decide +kernel
theorem dX7_bearerBy_14 : decode cX7_bearerBy 14 = .ok (.if_icmp .ne 11, 3) := by decide +kernel
theorem dX7_bearerBy_17 : decode cX7_bearerBy 17 = .ok (.aload_n 0, 1) := by decide +kernel
theorem dX7_bearerBy_18 : decode cX7_bearerBy 18 = .ok (.iload_n 1, 1) := by decide +kernel
theorem dX7_bearerBy_19 : decode cX7_bearerBy 19 = .ok (.invokevirtual 155, 3) := by decide +kernel
theorem dX7_bearerBy_22 : decode cX7_bearerBy 22 = .ok (.goto 17, 3) := by decide +kernel
theorem dX7_bearerBy_25 : decode cX7_bearerBy 25 = .ok (.aload_n 0, 1) := by decide +kernel
theorem dX7_bearerBy_26 : decode cX7_bearerBy 26 = .ok (.iload_n 1, 1) := by decide +kernel
theorem dX7_bearerBy_27 : decode cX7_bearerBy 27 = .ok (.invokevirtual 152, 3) := by decide +kernel
theorem dX7_bearerBy_30 : decode cX7_bearerBy 30 = .ok (.iconst (-1), 1) := by decide +kernel
theorem dX7_bearerBy_31 : decode cX7_bearerBy 31 = .ok (.if_icmp .ne 7, 3) := by decide +kernel
theorem dX7_bearerBy_34 : decode cX7_bearerBy 34 = .ok (.iconst 1, 1) := by decide +kernel
theorem dX7_bearerBy_35 : decode cX7_bearerBy 35 = .ok (.goto 4, 3) := by decide +kernel
theorem dX7_bearerBy_38 : decode cX7_bearerBy 38 = .ok (.iconst 0, 1) := by decide +kernel
theorem dX7_bearerBy_39 : decode cX7_bearerBy 39 = .ok (.ireturn, 1) := by decide +kernel
theorem dX7_bearer_0 : decode cX7_bearer 0 = .ok (.aload_n 0, 1) := by decide +kernel
theorem dX7_bearer_1 : decode cX7_bearer 1 = .ok (.invokevirtual 124, 3) := by decide +kernel
theorem dX7_bearer_4 : decode cX7_bearer 4 = .ok (.aload_n 0, 1) := by decide +kernel
theorem dX7_bearer_5 : decode cX7_bearer 5 = .ok (.iload_n 1, 1) := by decide +kernel
theorem dX7_bearer_6 : decode cX7_bearer 6 = .ok (.invokevirtual 133, 3) := by decide +kernel
theorem dX7_bearer_9 : decode cX7_bearer 9 = .ok (.ifCond .eq 24, 3) := by decide +kernel
theorem dX7_bearer_12 : decode cX7_bearer 12 = .ok (.iload_n 2, 1) := by decide +kernel
theorem dX7_bearer_13 : decode cX7_bearer 13 = .ok (.i2l, 1) := by decide +kernel
theorem dX7_bearer_14 : decode cX7_bearer 14 = .ok (.lconst 0, 1) := by decide +kernel
theorem dX7_bearer_15 : decode cX7_bearer 15 = .ok (.ldc2_w 74, 3) := by decide +kernel
theorem dX7_bearer_18 : decode cX7_bearer 18 = .ok (.invokestatic 61, 3) := by decide +kernel
theorem dX7_bearer_21 : decode cX7_bearer 21 = .ok (.ifCond .eq 12, 3) := by decide +kernel
theorem dX7_bearer_24 : decode cX7_bearer 24 = .ok (.aload_n 0, 1) := by decide +kernel
theorem dX7_bearer_25 : decode cX7_bearer 25 = .ok (.iload_n 1, 1) := by decide +kernel
theorem dX7_bearer_26 : decode cX7_bearer 26 = .ok (.iload_n 2, 1) := by decide +kernel
theorem dX7_bearer_27 : decode cX7_bearer 27 = .ok (.invokevirtual 158, 3) := by decide +kernel
theorem dX7_bearer_30 : decode cX7_bearer 30 = .ok (.goto 5, 3) := by decide +kernel
theorem dX7_bearer_33 : decode cX7_bearer 33 = .ok (.bipush (-2), 2) := by decide +kernel
theorem dX7_bearer_35 : decode cX7_bearer 35 = .ok (.ireturn, 1) := by decide +kernel
theorem dX7_borneOf_0 : decode cX7_borneOf 0 = .ok (.iconst 0, 1) := by decide +kernel
theorem dX7_borneOf_1 : decode cX7_borneOf 1 = .ok (.istore_n 3, 1) := by decide +kernel
theorem dX7_borneOf_2 : decode cX7_borneOf 2 = .ok (.iconst 0, 1) := by decide +kernel
theorem dX7_borneOf_3 : decode cX7_borneOf 3 = .ok (.istore 4, 2) := by decide +kernel
theorem dX7_borneOf_5 : decode cX7_borneOf 5 = .ok (.iload 4, 2) := by decide +kernel
theorem dX7_borneOf_7 : decode cX7_borneOf 7 = .ok (.aload_n 0, 1) := by decide +kernel
theorem dX7_borneOf_8 : decode cX7_borneOf 8 = .ok (.getfield 28, 3) := by decide +kernel
theorem dX7_borneOf_11 : decode cX7_borneOf 11 = .ok (.iconst 2, 1) := by decide +kernel
theorem dX7_borneOf_12 : decode cX7_borneOf 12 = .ok (.iaload, 1) := by decide +kernel
theorem dX7_borneOf_13 : decode cX7_borneOf 13 = .ok (.if_icmp .ge 63, 3) := by decide +kernel
theorem dX7_borneOf_16 : decode cX7_borneOf 16 = .ok (.iload_n 3, 1) := by decide +kernel
theorem dX7_borneOf_17 : decode cX7_borneOf 17 = .ok (.aload_n 0, 1) := by decide +kernel
theorem dX7_borneOf_18 : decode cX7_borneOf 18 = .ok (.getfield 37, 3) := by decide +kernel
theorem dX7_borneOf_21 : decode cX7_borneOf 21 = .ok (.iconst 3, 1) := by decide +kernel
theorem dX7_borneOf_22 : decode cX7_borneOf 22 = .ok (.iload 4, 2) := by decide +kernel
theorem dX7_borneOf_24 : decode cX7_borneOf 24 = .ok (.imul, 1) := by decide +kernel
theorem dX7_borneOf_25 : decode cX7_borneOf 25 = .ok (.iaload, 1) := by decide +kernel
theorem dX7_borneOf_26 : decode cX7_borneOf 26 = .ok (.iload_n 1, 1) := by decide +kernel
theorem dX7_borneOf_27 : decode cX7_borneOf 27 = .ok (.if_icmp .ne 40, 3) := by decide +kernel
theorem dX7_borneOf_30 : decode cX7_borneOf 30 = .ok (.aload_n 0, 1) := by decide +kernel
theorem dX7_borneOf_31 : decode cX7_borneOf 31 = .ok (.iload 4, 2) := by decide +kernel
theorem dX7_borneOf_33 : decode cX7_borneOf 33 = .ok (.invokevirtual 143, 3) := by decide +kernel
theorem dX7_borneOf_36 : decode cX7_borneOf 36 = .ok (.ifCond .eq 31, 3) := by decide +kernel
theorem dX7_borneOf_39 : decode cX7_borneOf 39 = .ok (.aload_n 0, 1) := by decide +kernel
theorem dX7_borneOf_40 : decode cX7_borneOf 40 = .ok (.aload_n 0, 1) := by decide +kernel
theorem dX7_borneOf_41 : decode cX7_borneOf 41 = .ok (.getfield 37, 3) := by decide +kernel
theorem dX7_borneOf_44 : decode cX7_borneOf 44 = .ok (.iconst 3, 1) := by decide +kernel
theorem dX7_borneOf_45 : decode cX7_borneOf 45 = .ok (.iload 4, 2) := by decide +kernel
theorem dX7_borneOf_47 : decode cX7_borneOf 47 = .ok (.imul, 1) := by decide +kernel
theorem dX7_borneOf_48 : decode cX7_borneOf 48 = .ok (.iconst 1, 1) := by decide +kernel
theorem dX7_borneOf_49 : decode cX7_borneOf 49 = .ok (.iadd, 1) := by decide +kernel
theorem dX7_borneOf_50 : decode cX7_borneOf 50 = .ok (.iaload, 1) := by decide +kernel
theorem dX7_borneOf_51 : decode cX7_borneOf 51 = .ok (.invokevirtual 152, 3) := by decide +kernel
theorem dX7_borneOf_54 : decode cX7_borneOf 54 = .ok (.iload_n 2, 1) := by decide +kernel
theorem dX7_borneOf_55 : decode cX7_borneOf 55 = .ok (.if_icmp .ne 12, 3) := by decide +kernel
theorem dX7_borneOf_58 : decode cX7_borneOf 58 = .ok (.aload_n 0, 1) := by decide +kernel
theorem dX7_borneOf_59 : decode cX7_borneOf 59 = .ok (.iload 4, 2) := by decide +kernel
theorem dX7_borneOf_61 : decode cX7_borneOf 61 = .ok (.invokevirtual 146, 3) := by decide +kernel
theorem dX7_borneOf_64 : decode cX7_borneOf 64 = .ok (.goto 4, 3) := by decide +kernel
theorem dX7_borneOf_67 : decode cX7_borneOf 67 = .ok (.iconst 0, 1) := by decide +kernel
theorem dX7_borneOf_68 : decode cX7_borneOf 68 = .ok (.iadd, 1) := by decide +kernel
theorem dX7_borneOf_69 : decode cX7_borneOf 69 = .ok (.istore_n 3, 1) := by decide +kernel
theorem dX7_borneOf_70 : decode cX7_borneOf 70 = .ok (.iinc 4 1, 3) := by decide +kernel
theorem dX7_borneOf_73 : decode cX7_borneOf 73 = .ok (.goto (-68), 3) := by decide +kernel
theorem dX7_borneOf_76 : decode cX7_borneOf 76 = .ok (.iload_n 3, 1) := by decide +kernel
theorem dX7_borneOf_77 : decode cX7_borneOf 77 = .ok (.ireturn, 1) := by decide +kernel
theorem dX7_borne_0 : decode cX7_borne 0 = .ok (.aload_n 0, 1) := by decide +kernel
theorem dX7_borne_1 : decode cX7_borne 1 = .ok (.invokevirtual 124, 3) := by decide +kernel
theorem dX7_borne_4 : decode cX7_borne 4 = .ok (.aload_n 0, 1) := by decide +kernel
theorem dX7_borne_5 : decode cX7_borne 5 = .ok (.iload_n 1, 1) := by decide +kernel
theorem dX7_borne_6 : decode cX7_borne 6 = .ok (.invokevirtual 127, 3) := by decide +kernel
theorem dX7_borne_9 : decode cX7_borne 9 = .ok (.ifCond .eq 20, 3) := by decide +kernel
theorem dX7_borne_12 : decode cX7_borne 12 = .ok (.aload_n 0, 1) := by decide +kernel
theorem dX7_borne_13 : decode cX7_borne 13 = .ok (.iload_n 2, 1) := by decide +kernel
theorem dX7_borne_14 : decode cX7_borne 14 = .ok (.invokevirtual 133, 3) := by decide +kernel
theorem dX7_borne_17 : decode cX7_borne 17 = .ok (.ifCond .eq 12, 3) := by decide +kernel
theorem dX7_borne_20 : decode cX7_borne 20 = .ok (.aload_n 0, 1) := by decide +kernel
theorem dX7_borne_21 : decode cX7_borne 21 = .ok (.iload_n 1, 1) := by decide +kernel
theorem dX7_borne_22 : decode cX7_borne 22 = .ok (.iload_n 2, 1) := by decide +kernel
theorem dX7_borne_23 : decode cX7_borne 23 = .ok (.invokevirtual 161, 3) := by decide +kernel
theorem dX7_borne_26 : decode cX7_borne 26 = .ok (.goto 5, 3) := by decide +kernel
theorem dX7_borne_29 : decode cX7_borne 29 = .ok (.bipush (-2), 2) := by decide +kernel
theorem dX7_borne_31 : decode cX7_borne 31 = .ok (.ireturn, 1) := by decide +kernel
theorem dX7_unborne_0 : decode cX7_unborne 0 = .ok (.aload_n 0, 1) := by decide +kernel
theorem dX7_unborne_1 : decode cX7_unborne 1 = .ok (.invokevirtual 124, 3) := by decide +kernel
theorem dX7_unborne_4 : decode cX7_unborne 4 = .ok (.aload_n 0, 1) := by decide +kernel
theorem dX7_unborne_5 : decode cX7_unborne 5 = .ok (.iload_n 1, 1) := by decide +kernel
theorem dX7_unborne_6 : decode cX7_unborne 6 = .ok (.invokevirtual 127, 3) := by decide +kernel
theorem dX7_unborne_9 : decode cX7_unborne 9 = .ok (.ifCond .eq 12, 3) := by decide +kernel
theorem dX7_unborne_12 : decode cX7_unborne 12 = .ok (.aload_n 0, 1) := by decide +kernel
theorem dX7_unborne_13 : decode cX7_unborne 13 = .ok (.iload_n 1, 1) := by decide +kernel
theorem dX7_unborne_14 : decode cX7_unborne 14 = .ok (.iconst (-1), 1) := by decide +kernel
theorem dX7_unborne_15 : decode cX7_unborne 15 = .ok (.invokevirtual 161, 3) := by decide +kernel
theorem dX7_unborne_18 : decode cX7_unborne 18 = .ok (.goto 5, 3) := by decide +kernel
theorem dX7_unborne_21 : decode cX7_unborne 21 = .ok (.bipush (-2), 2) := by decide +kernel
theorem dX7_unborne_23 : decode cX7_unborne 23 = .ok (.ireturn, 1) := by decide +kernel
theorem dX7_loss_0 : decode cX7_loss 0 = .ok (.iload_n 1, 1) := by decide +kernel
theorem dX7_loss_1 : decode cX7_loss 1 = .ok (.invokestatic 164, 3) := by decide +kernel
theorem dX7_loss_4 : decode cX7_loss 4 = .ok (.ifCond .eq 15, 3) := by decide +kernel
theorem dX7_loss_7 : decode cX7_loss 7 = .ok (.iload_n 2, 1) := by decide +kernel
theorem dX7_loss_8 : decode cX7_loss 8 = .ok (.i2l, 1) := by decide +kernel
theorem dX7_loss_9 : decode cX7_loss 9 = .ok (.lconst 0, 1) := by decide +kernel
theorem dX7_loss_10 : decode cX7_loss 10 = .ok (.ldc2_w 167, 3) := by decide +kernel
theorem dX7_loss_13 : decode cX7_loss 13 = .ok (.invokestatic 61, 3) := by decide +kernel
theorem dX7_loss_16 : decode cX7_loss 16 = .ok (.ifCond .ne 6, 3) := by decide +kernel
theorem dX7_loss_19 : decode cX7_loss 19 = .ok (.bipush (-2), 2) := by decide +kernel
theorem dX7_loss_21 : decode cX7_loss 21 = .ok (.ireturn, 1) := by decide +kernel
theorem dX7_loss_22 : decode cX7_loss 22 = .ok (.aload_n 0, 1) := by decide +kernel
theorem dX7_loss_23 : decode cX7_loss 23 = .ok (.getfield 169, 3) := by decide +kernel
theorem dX7_loss_26 : decode cX7_loss 26 = .ok (.bipush 12, 2) := by decide +kernel
theorem dX7_loss_28 : decode cX7_loss 28 = .ok (.if_icmp .ne 6, 3) := by decide +kernel
theorem dX7_loss_31 : decode cX7_loss 31 = .ok (.bipush (-4), 2) := by decide +kernel
theorem dX7_loss_33 : decode cX7_loss 33 = .ok (.ireturn, 1) := by decide +kernel
theorem dX7_loss_34 : decode cX7_loss 34 = .ok (.aload_n 0, 1) := by decide +kernel
theorem dX7_loss_35 : decode cX7_loss 35 = .ok (.getfield 40, 3) := by decide +kernel
theorem dX7_loss_38 : decode cX7_loss 38 = .ok (.iconst 2, 1) := by decide +kernel
theorem dX7_loss_39 : decode cX7_loss 39 = .ok (.aload_n 0, 1) := by decide +kernel
theorem dX7_loss_40 : decode cX7_loss 40 = .ok (.getfield 169, 3) := by decide +kernel
theorem dX7_loss_43 : decode cX7_loss 43 = .ok (.imul, 1) := by decide +kernel
theorem dX7_loss_44 : decode cX7_loss 44 = .ok (.iload_n 1, 1) := by decide +kernel
theorem dX7_loss_45 : decode cX7_loss 45 = .ok (.iastore, 1) := by decide +kernel
theorem dX7_loss_46 : decode cX7_loss 46 = .ok (.aload_n 0, 1) := by decide +kernel
theorem dX7_loss_47 : decode cX7_loss 47 = .ok (.getfield 40, 3) := by decide +kernel
theorem dX7_loss_50 : decode cX7_loss 50 = .ok (.iconst 2, 1) := by decide +kernel
theorem dX7_loss_51 : decode cX7_loss 51 = .ok (.aload_n 0, 1) := by decide +kernel
theorem dX7_loss_52 : decode cX7_loss 52 = .ok (.getfield 169, 3) := by decide +kernel
theorem dX7_loss_55 : decode cX7_loss 55 = .ok (.imul, 1) := by decide +kernel
theorem dX7_loss_56 : decode cX7_loss 56 = .ok (.iconst 1, 1) := by decide +kernel
theorem dX7_loss_57 : decode cX7_loss 57 = .ok (.iadd, 1) := by decide +kernel
theorem dX7_loss_58 : decode cX7_loss 58 = .ok (.iload_n 2, 1) := by decide +kernel
theorem dX7_loss_59 : decode cX7_loss 59 = .ok (.iastore, 1) := by decide +kernel
theorem dX7_loss_60 : decode cX7_loss 60 = .ok (.aload_n 0, 1) := by decide +kernel
theorem dX7_loss_61 : decode cX7_loss 61 = .ok (.dup, 1) := by decide +kernel
theorem dX7_loss_62 : decode cX7_loss 62 = .ok (.getfield 169, 3) := by decide +kernel
theorem dX7_loss_65 : decode cX7_loss 65 = .ok (.iconst 1, 1) := by decide +kernel
theorem dX7_loss_66 : decode cX7_loss 66 = .ok (.iadd, 1) := by decide +kernel
theorem dX7_loss_67 : decode cX7_loss 67 = .ok (.putfield 169, 3) := by decide +kernel
theorem dX7_loss_70 : decode cX7_loss 70 = .ok (.aload_n 0, 1) := by decide +kernel
theorem dX7_loss_71 : decode cX7_loss 71 = .ok (.getfield 169, 3) := by decide +kernel
theorem dX7_loss_74 : decode cX7_loss 74 = .ok (.ireturn, 1) := by decide +kernel
theorem dX7_back_0 : decode cX7_back 0 = .ok (.aload_n 0, 1) := by decide +kernel
theorem dX7_back_1 : decode cX7_back 1 = .ok (.getfield 169, 3) := by decide +kernel
theorem dX7_back_4 : decode cX7_back 4 = .ok (.ifCond .ne 6, 3) := by decide +kernel
theorem dX7_back_7 : decode cX7_back 7 = .ok (.bipush (-3), 2) := by decide +kernel
theorem dX7_back_9 : decode cX7_back 9 = .ok (.ireturn, 1) := by decide +kernel
theorem dX7_back_10 : decode cX7_back 10 = .ok (.aload_n 0, 1) := by decide +kernel
theorem dX7_back_11 : decode cX7_back 11 = .ok (.dup, 1) := by decide +kernel
theorem dX7_back_12 : decode cX7_back 12 = .ok (.getfield 169, 3) := by decide +kernel
theorem dX7_back_15 : decode cX7_back 15 = .ok (.iconst 1, 1) := by decide +kernel
theorem dX7_back_16 : decode cX7_back 16 = .ok (.isub, 1) := by decide +kernel
theorem dX7_back_17 : decode cX7_back 17 = .ok (.putfield 169, 3) := by decide +kernel
theorem dX7_back_20 : decode cX7_back 20 = .ok (.aload_n 0, 1) := by decide +kernel
theorem dX7_back_21 : decode cX7_back 21 = .ok (.getfield 169, 3) := by decide +kernel
theorem dX7_back_24 : decode cX7_back 24 = .ok (.ireturn, 1) := by decide +kernel
theorem dX7_read_0 : decode cX7_read 0 = .ok (.iload_n 1, 1) := by decide +kernel
theorem dX7_read_1 : decode cX7_read 1 = .ok (.invokestatic 70, 3) := by decide +kernel
theorem dX7_read_4 : decode cX7_read 4 = .ok (.ifCond .ne 6, 3) := by decide +kernel
theorem dX7_read_7 : decode cX7_read 7 = .ok (.bipush (-2), 2) := by decide +kernel
theorem dX7_read_9 : decode cX7_read 9 = .ok (.ireturn, 1) := by decide +kernel
theorem dX7_read_10 : decode cX7_read 10 = .ok (.aload_n 0, 1) := by decide +kernel
theorem dX7_read_11 : decode cX7_read 11 = .ok (.getfield 7, 3) := by decide +kernel
theorem dX7_read_14 : decode cX7_read 14 = .ok (.iload_n 1, 1) := by decide +kernel
theorem dX7_read_15 : decode cX7_read 15 = .ok (.iaload, 1) := by decide +kernel
theorem dX7_read_16 : decode cX7_read 16 = .ok (.ifCond .ge 9, 3) := by decide +kernel
theorem dX7_read_19 : decode cX7_read 19 = .ok (.aload_n 0, 1) := by decide +kernel
theorem dX7_read_20 : decode cX7_read 20 = .ok (.iconst 1, 1) := by decide +kernel
theorem dX7_read_21 : decode cX7_read 21 = .ok (.invokevirtual 76, 3) := by decide +kernel
theorem dX7_read_24 : decode cX7_read 24 = .ok (.ireturn, 1) := by decide +kernel
theorem dX7_read_25 : decode cX7_read 25 = .ok (.iconst 0, 1) := by decide +kernel
theorem dX7_read_26 : decode cX7_read 26 = .ok (.istore_n 2, 1) := by decide +kernel
theorem dX7_read_27 : decode cX7_read 27 = .ok (.iconst 1, 1) := by decide +kernel
theorem dX7_read_28 : decode cX7_read 28 = .ok (.istore_n 3, 1) := by decide +kernel
theorem dX7_read_29 : decode cX7_read 29 = .ok (.iload_n 3, 1) := by decide +kernel
theorem dX7_read_30 : decode cX7_read 30 = .ok (.ifCond .eq 73, 3) := by decide +kernel
theorem dX7_read_33 : decode cX7_read 33 = .ok (.iconst 2, 1) := by decide +kernel
theorem dX7_read_34 : decode cX7_read 34 = .ok (.iload_n 2, 1) := by decide +kernel
theorem dX7_read_35 : decode cX7_read 35 = .ok (.imul, 1) := by decide +kernel
theorem dX7_read_36 : decode cX7_read 36 = .ok (.iconst 2, 1) := by decide +kernel
theorem dX7_read_37 : decode cX7_read 37 = .ok (.iadd, 1) := by decide +kernel
theorem dX7_read_38 : decode cX7_read 38 = .ok (.aload_n 0, 1) := by decide +kernel
theorem dX7_read_39 : decode cX7_read 39 = .ok (.getfield 13, 3) := by decide +kernel
theorem dX7_read_42 : decode cX7_read 42 = .ok (.iload_n 1, 1) := by decide +kernel
theorem dX7_read_43 : decode cX7_read 43 = .ok (.iaload, 1) := by decide +kernel
theorem dX7_read_44 : decode cX7_read 44 = .ok (.if_icmp .gt 59, 3) := by decide +kernel
theorem dX7_read_47 : decode cX7_read 47 = .ok (.aload_n 0, 1) := by decide +kernel
theorem dX7_read_48 : decode cX7_read 48 = .ok (.aload_n 0, 1) := by decide +kernel
theorem dX7_read_49 : decode cX7_read 49 = .ok (.getfield 16, 3) := by decide +kernel
theorem dX7_read_52 : decode cX7_read 52 = .ok (.bipush 60, 2) := by decide +kernel
theorem dX7_read_54 : decode cX7_read 54 = .ok (.iload_n 1, 1) := by decide +kernel
theorem dX7_read_55 : decode cX7_read 55 = .ok (.imul, 1) := by decide +kernel
theorem dX7_read_56 : decode cX7_read 56 = .ok (.iconst 2, 1) := by decide +kernel
theorem dX7_read_57 : decode cX7_read 57 = .ok (.iload_n 2, 1) := by decide +kernel
theorem dX7_read_58 : decode cX7_read 58 = .ok (.imul, 1) := by decide +kernel
theorem dX7_read_59 : decode cX7_read 59 = .ok (.iadd, 1) := by decide +kernel
theorem dX7_read_60 : decode cX7_read 60 = .ok (.iaload, 1) := by decide +kernel
theorem dX7_read_61 : decode cX7_read 61 = .ok (.aload_n 0, 1) := by decide +kernel
theorem dX7_read_62 : decode cX7_read 62 = .ok (.getfield 16, 3) := by decide +kernel
theorem dX7_read_65 : decode cX7_read 65 = .ok (.bipush 60, 2) := by decide +kernel
theorem dX7_read_67 : decode cX7_read 67 = .ok (.iload_n 1, 1) := by decide +kernel
theorem dX7_read_68 : decode cX7_read 68 = .ok (.imul, 1) := by decide +kernel
theorem dX7_read_69 : decode cX7_read 69 = .ok (.iconst 2, 1) := by decide +kernel
theorem dX7_read_70 : decode cX7_read 70 = .ok (.iload_n 2, 1) := by decide +kernel
theorem dX7_read_71 : decode cX7_read 71 = .ok (.imul, 1) := by decide +kernel
theorem dX7_read_72 : decode cX7_read 72 = .ok (.iadd, 1) := by decide +kernel
theorem dX7_read_73 : decode cX7_read 73 = .ok (.iconst 1, 1) := by decide +kernel
theorem dX7_read_74 : decode cX7_read 74 = .ok (.iadd, 1) := by decide +kernel
theorem dX7_read_75 : decode cX7_read 75 = .ok (.iaload, 1) := by decide +kernel
theorem dX7_read_76 : decode cX7_read 76 = .ok (.invokevirtual 172, 3) := by decide +kernel
theorem dX7_read_79 : decode cX7_read 79 = .ok (.ifCond .lt 7, 3) := by decide +kernel
theorem dX7_read_82 : decode cX7_read 82 = .ok (.iconst 1, 1) := by decide +kernel
theorem dX7_read_83 : decode cX7_read 83 = .ok (.goto 4, 3) := by decide +kernel
theorem dX7_read_86 : decode cX7_read 86 = .ok (.iconst 0, 1) := by decide +kernel
theorem dX7_read_87 : decode cX7_read 87 = .ok (.istore_n 3, 1) := by decide +kernel
theorem dX7_read_88 : decode cX7_read 88 = .ok (.iload_n 2, 1) := by decide +kernel
theorem dX7_read_89 : decode cX7_read 89 = .ok (.iload_n 3, 1) := by decide +kernel
theorem dX7_read_90 : decode cX7_read 90 = .ok (.ifCond .eq 7, 3) := by decide +kernel
theorem dX7_read_93 : decode cX7_read 93 = .ok (.iconst 1, 1) := by decide +kernel
theorem dX7_read_94 : decode cX7_read 94 = .ok (.goto 4, 3) := by decide +kernel
theorem dX7_read_97 : decode cX7_read 97 = .ok (.iconst 0, 1) := by decide +kernel
theorem dX7_read_98 : decode cX7_read 98 = .ok (.iadd, 1) := by decide +kernel
theorem dX7_read_99 : decode cX7_read 99 = .ok (.istore_n 2, 1) := by decide +kernel
theorem dX7_read_100 : decode cX7_read 100 = .ok (.goto (-71), 3) := by decide +kernel
theorem dX7_read_103 : decode cX7_read 103 = .ok (.iload_n 2, 1) := by decide +kernel
theorem dX7_read_104 : decode cX7_read 104 = .ok (.ireturn, 1) := by decide +kernel
theorem dX7_begins_0 : decode cX7_begins 0 = .ok (.iconst 0, 1) := by decide +kernel
theorem dX7_begins_1 : decode cX7_begins 1 = .ok (.istore_n 1, 1) := by decide +kernel
theorem dX7_begins_2 : decode cX7_begins 2 = .ok (.iload_n 1, 1) := by decide +kernel
theorem dX7_begins_3 : decode cX7_begins 3 = .ok (.aload_n 0, 1) := by decide +kernel
theorem dX7_begins_4 : decode cX7_begins 4 = .ok (.getfield 28, 3) := by decide +kernel
theorem dX7_begins_7 : decode cX7_begins 7 = .ok (.iconst 1, 1) := by decide +kernel
theorem dX7_begins_8 : decode cX7_begins 8 = .ok (.iaload, 1) := by decide +kernel
theorem dX7_begins_9 : decode cX7_begins 9 = .ok (.if_icmp .ge 23, 3) := by decide +kernel
theorem dX7_begins_12 : decode cX7_begins 12 = .ok (.aload_n 0, 1) := by decide +kernel
theorem dX7_begins_13 : decode cX7_begins 13 = .ok (.getfield 43, 3) := by decide +kernel
theorem dX7_begins_16 : decode cX7_begins 16 = .ok (.iload_n 1, 1) := by decide +kernel
theorem dX7_begins_17 : decode cX7_begins 17 = .ok (.aload_n 0, 1) := by decide +kernel
theorem dX7_begins_18 : decode cX7_begins 18 = .ok (.getfield 34, 3) := by decide +kernel
theorem dX7_begins_21 : decode cX7_begins 21 = .ok (.iconst 3, 1) := by decide +kernel
theorem dX7_begins_22 : decode cX7_begins 22 = .ok (.iload_n 1, 1) := by decide +kernel
theorem dX7_begins_23 : decode cX7_begins 23 = .ok (.imul, 1) := by decide +kernel
theorem dX7_begins_24 : decode cX7_begins 24 = .ok (.iaload, 1) := by decide +kernel
theorem dX7_begins_25 : decode cX7_begins 25 = .ok (.iastore, 1) := by decide +kernel
theorem dX7_begins_26 : decode cX7_begins 26 = .ok (.iinc 1 1, 3) := by decide +kernel
theorem dX7_begins_29 : decode cX7_begins 29 = .ok (.goto (-27), 3) := by decide +kernel
theorem dX7_begins_32 : decode cX7_begins 32 = .ok (.iconst 0, 1) := by decide +kernel
theorem dX7_begins_33 : decode cX7_begins 33 = .ok (.istore_n 1, 1) := by decide +kernel
theorem dX7_begins_34 : decode cX7_begins 34 = .ok (.iload_n 1, 1) := by decide +kernel
theorem dX7_begins_35 : decode cX7_begins 35 = .ok (.bipush 6, 2) := by decide +kernel
theorem dX7_begins_37 : decode cX7_begins 37 = .ok (.if_icmp .ge 16, 3) := by decide +kernel
theorem dX7_begins_40 : decode cX7_begins 40 = .ok (.aload_n 0, 1) := by decide +kernel
theorem dX7_begins_41 : decode cX7_begins 41 = .ok (.getfield 46, 3) := by decide +kernel
theorem dX7_begins_44 : decode cX7_begins 44 = .ok (.iload_n 1, 1) := by decide +kernel
theorem dX7_begins_45 : decode cX7_begins 45 = .ok (.iconst 0, 1) := by decide +kernel
theorem dX7_begins_46 : decode cX7_begins 46 = .ok (.iastore, 1) := by decide +kernel
theorem dX7_begins_47 : decode cX7_begins 47 = .ok (.iinc 1 1, 3) := by decide +kernel
theorem dX7_begins_50 : decode cX7_begins 50 = .ok (.goto (-16), 3) := by decide +kernel
theorem dX7_begins_53 : decode cX7_begins 53 = .ok (.aload_n 0, 1) := by decide +kernel
theorem dX7_begins_54 : decode cX7_begins 54 = .ok (.iconst 0, 1) := by decide +kernel
theorem dX7_begins_55 : decode cX7_begins 55 = .ok (.putfield 174, 3) := by decide +kernel
theorem dX7_begins_58 : decode cX7_begins 58 = .ok (.aload_n 0, 1) := by decide +kernel
theorem dX7_begins_59 : decode cX7_begins 59 = .ok (.iconst 0, 1) := by decide +kernel
theorem dX7_begins_60 : decode cX7_begins 60 = .ok (.putfield 177, 3) := by decide +kernel
theorem dX7_begins_63 : decode cX7_begins 63 = .ok (.aload_n 0, 1) := by decide +kernel
theorem dX7_begins_64 : decode cX7_begins 64 = .ok (.iconst (-1), 1) := by decide +kernel
theorem dX7_begins_65 : decode cX7_begins 65 = .ok (.putfield 180, 3) := by decide +kernel
theorem dX7_begins_68 : decode cX7_begins 68 = .ok (.aload_n 0, 1) := by decide +kernel
theorem dX7_begins_69 : decode cX7_begins 69 = .ok (.iconst (-1), 1) := by decide +kernel
theorem dX7_begins_70 : decode cX7_begins 70 = .ok (.putfield 183, 3) := by decide +kernel
theorem dX7_begins_73 : decode cX7_begins 73 = .ok (.return_, 1) := by decide +kernel
theorem dX7_goes_0 : decode cX7_goes 0 = .ok (.aload_n 0, 1) := by decide +kernel
theorem dX7_goes_1 : decode cX7_goes 1 = .ok (.iload_n 2, 1) := by decide +kernel
theorem dX7_goes_2 : decode cX7_goes 2 = .ok (.invokevirtual 127, 3) := by decide +kernel
theorem dX7_goes_5 : decode cX7_goes 5 = .ok (.ifCond .eq 14, 3) := by decide +kernel
theorem dX7_goes_8 : decode cX7_goes 8 = .ok (.aload_n 0, 1) := by decide +kernel
theorem dX7_goes_9 : decode cX7_goes 9 = .ok (.getfield 177, 3) := by decide +kernel
theorem dX7_goes_12 : decode cX7_goes 12 = .ok (.iload_n 2, 1) := by decide +kernel
theorem dX7_goes_13 : decode cX7_goes 13 = .ok (.invokestatic 139, 3) := by decide +kernel
theorem dX7_goes_16 : decode cX7_goes 16 = .ok (.ifCond .eq 4, 3) := by decide +kernel
theorem dX7_goes_19 : decode cX7_goes 19 = .ok (.return_, 1) := by decide +kernel
theorem dX7_goes_20 : decode cX7_goes 20 = .ok (.aload_n 0, 1) := by decide +kernel
theorem dX7_goes_21 : decode cX7_goes 21 = .ok (.dup, 1) := by decide +kernel
theorem dX7_goes_22 : decode cX7_goes 22 = .ok (.getfield 177, 3) := by decide +kernel
theorem dX7_goes_25 : decode cX7_goes 25 = .ok (.iconst 1, 1) := by decide +kernel
theorem dX7_goes_26 : decode cX7_goes 26 = .ok (.iload_n 2, 1) := by decide +kernel
theorem dX7_goes_27 : decode cX7_goes 27 = .ok (.ishl, 1) := by decide +kernel
theorem dX7_goes_28 : decode cX7_goes 28 = .ok (.ior, 1) := by decide +kernel
theorem dX7_goes_29 : decode cX7_goes 29 = .ok (.putfield 177, 3) := by decide +kernel
theorem dX7_goes_32 : decode cX7_goes 32 = .ok (.iconst 0, 1) := by decide +kernel
theorem dX7_goes_33 : decode cX7_goes 33 = .ok (.istore_n 3, 1) := by decide +kernel
theorem dX7_goes_34 : decode cX7_goes 34 = .ok (.iload_n 3, 1) := by decide +kernel
theorem dX7_goes_35 : decode cX7_goes 35 = .ok (.aload_n 0, 1) := by decide +kernel
theorem dX7_goes_36 : decode cX7_goes 36 = .ok (.getfield 28, 3) := by decide +kernel
theorem dX7_goes_39 : decode cX7_goes 39 = .ok (.iconst 2, 1) := by decide +kernel
theorem dX7_goes_40 : decode cX7_goes 40 = .ok (.iaload, 1) := by decide +kernel
theorem dX7_goes_41 : decode cX7_goes 41 = .ok (.if_icmp .ge 184, 3) := by decide +kernel
theorem dX7_goes_44 : decode cX7_goes 44 = .ok (.aload_n 0, 1) := by decide +kernel
theorem dX7_goes_45 : decode cX7_goes 45 = .ok (.getfield 37, 3) := by decide +kernel
theorem dX7_goes_48 : decode cX7_goes 48 = .ok (.iconst 3, 1) := by decide +kernel
theorem dX7_goes_49 : decode cX7_goes 49 = .ok (.iload_n 3, 1) := by decide +kernel
theorem dX7_goes_50 : decode cX7_goes 50 = .ok (.imul, 1) := by decide +kernel
theorem dX7_goes_51 : decode cX7_goes 51 = .ok (.iaload, 1) := by decide +kernel
theorem dX7_goes_52 : decode cX7_goes 52 = .ok (.iload_n 2, 1) := by decide +kernel
theorem dX7_goes_53 : decode cX7_goes 53 = .ok (.if_icmp .ne 28, 3) := by decide +kernel
theorem dX7_goes_56 : decode cX7_goes 56 = .ok (.aload_n 0, 1) := by decide +kernel
theorem dX7_goes_57 : decode cX7_goes 57 = .ok (.iload_n 3, 1) := by decide +kernel
theorem dX7_goes_58 : decode cX7_goes 58 = .ok (.invokevirtual 143, 3) := by decide +kernel
theorem dX7_goes_61 : decode cX7_goes 61 = .ok (.ifCond .eq 20, 3) := by decide +kernel
theorem dX7_goes_64 : decode cX7_goes 64 = .ok (.aload_n 0, 1) := by decide +kernel
theorem dX7_goes_65 : decode cX7_goes 65 = .ok (.aload_n 0, 1) := by decide +kernel
theorem dX7_goes_66 : decode cX7_goes 66 = .ok (.getfield 37, 3) := by decide +kernel
theorem dX7_goes_69 : decode cX7_goes 69 = .ok (.iconst 3, 1) := by decide +kernel
theorem dX7_goes_70 : decode cX7_goes 70 = .ok (.iload_n 3, 1) := by decide +kernel
theorem dX7_goes_71 : decode cX7_goes 71 = .ok (.imul, 1) := by decide +kernel
theorem dX7_goes_72 : decode cX7_goes 72 = .ok (.iconst 1, 1) := by decide +kernel
theorem dX7_goes_73 : decode cX7_goes 73 = .ok (.iadd, 1) := by decide +kernel
theorem dX7_goes_74 : decode cX7_goes 74 = .ok (.iaload, 1) := by decide +kernel
theorem dX7_goes_75 : decode cX7_goes 75 = .ok (.invokevirtual 152, 3) := by decide +kernel
theorem dX7_goes_78 : decode cX7_goes 78 = .ok (.goto 4, 3) := by decide +kernel
theorem dX7_goes_81 : decode cX7_goes 81 = .ok (.iconst (-1), 1) := by decide +kernel
theorem dX7_goes_82 : decode cX7_goes 82 = .ok (.istore 4, 2) := by decide +kernel
theorem dX7_goes_84 : decode cX7_goes 84 = .ok (.iload 4, 2) := by decide +kernel
theorem dX7_goes_86 : decode cX7_goes 86 = .ok (.iconst (-1), 1) := by decide +kernel
theorem dX7_goes_87 : decode cX7_goes 87 = .ok (.if_icmp .eq 132, 3) := by decide +kernel
theorem dX7_goes_90 : decode cX7_goes 90 = .ok (.aload_n 0, 1) := by decide +kernel
theorem dX7_goes_91 : decode cX7_goes 91 = .ok (.getfield 55, 3) := by decide +kernel
theorem dX7_goes_94 : decode cX7_goes 94 = .ok (.iload 4, 2) := by decide +kernel
theorem dX7_goes_96 : decode cX7_goes 96 = .ok (.invokestatic 139, 3) := by decide +kernel
theorem dX7_goes_99 : decode cX7_goes 99 = .ok (.ifCond .eq 120, 3) := by decide +kernel
theorem dX7_goes_102 : decode cX7_goes 102 = .ok (.aload_n 0, 1) := by decide +kernel
theorem dX7_goes_103 : decode cX7_goes 103 = .ok (.iload_n 3, 1) := by decide +kernel
theorem dX7_goes_104 : decode cX7_goes 104 = .ok (.invokevirtual 146, 3) := by decide +kernel
theorem dX7_goes_107 : decode cX7_goes 107 = .ok (.istore 5, 2) := by decide +kernel
theorem dX7_goes_109 : decode cX7_goes 109 = .ok (.iload 5, 2) := by decide +kernel
theorem dX7_goes_111 : decode cX7_goes 111 = .ok (.aload_n 0, 1) := by decide +kernel
theorem dX7_goes_112 : decode cX7_goes 112 = .ok (.getfield 43, 3) := by decide +kernel
theorem dX7_goes_115 : decode cX7_goes 115 = .ok (.iload 4, 2) := by decide +kernel
theorem dX7_goes_117 : decode cX7_goes 117 = .ok (.iaload, 1) := by decide +kernel
theorem dX7_goes_118 : decode cX7_goes 118 = .ok (.invokestatic 186, 3) := by decide +kernel
theorem dX7_goes_121 : decode cX7_goes 121 = .ok (.istore 6, 2) := by decide +kernel
theorem dX7_goes_123 : decode cX7_goes 123 = .ok (.aload_n 0, 1) := by decide +kernel
theorem dX7_goes_124 : decode cX7_goes 124 = .ok (.getfield 43, 3) := by decide +kernel
theorem dX7_goes_127 : decode cX7_goes 127 = .ok (.iload 4, 2) := by decide +kernel
theorem dX7_goes_129 : decode cX7_goes 129 = .ok (.dup2, 1) := by decide +kernel
theorem dX7_goes_130 : decode cX7_goes 130 = .ok (.iaload, 1) := by decide +kernel
theorem dX7_goes_131 : decode cX7_goes 131 = .ok (.iload 6, 2) := by decide +kernel
theorem dX7_goes_133 : decode cX7_goes 133 = .ok (.isub, 1) := by decide +kernel
theorem dX7_goes_134 : decode cX7_goes 134 = .ok (.iastore, 1) := by decide +kernel
theorem dX7_goes_135 : decode cX7_goes 135 = .ok (.aload_n 0, 1) := by decide +kernel
theorem dX7_goes_136 : decode cX7_goes 136 = .ok (.getfield 46, 3) := by decide +kernel
theorem dX7_goes_139 : decode cX7_goes 139 = .ok (.iload_n 2, 1) := by decide +kernel
theorem dX7_goes_140 : decode cX7_goes 140 = .ok (.dup2, 1) := by decide +kernel
theorem dX7_goes_141 : decode cX7_goes 141 = .ok (.iaload, 1) := by decide +kernel
theorem dX7_goes_142 : decode cX7_goes 142 = .ok (.iload 6, 2) := by decide +kernel
theorem dX7_goes_144 : decode cX7_goes 144 = .ok (.iadd, 1) := by decide +kernel
theorem dX7_goes_145 : decode cX7_goes 145 = .ok (.iastore, 1) := by decide +kernel
theorem dX7_goes_146 : decode cX7_goes 146 = .ok (.iload 6, 2) := by decide +kernel
theorem dX7_goes_148 : decode cX7_goes 148 = .ok (.iload 5, 2) := by decide +kernel
theorem dX7_goes_150 : decode cX7_goes 150 = .ok (.if_icmp .ge 21, 3) := by decide +kernel
theorem dX7_goes_153 : decode cX7_goes 153 = .ok (.aload_n 0, 1) := by decide +kernel
theorem dX7_goes_154 : decode cX7_goes 154 = .ok (.getfield 34, 3) := by decide +kernel
theorem dX7_goes_157 : decode cX7_goes 157 = .ok (.iconst 3, 1) := by decide +kernel
theorem dX7_goes_158 : decode cX7_goes 158 = .ok (.iload 4, 2) := by decide +kernel
theorem dX7_goes_160 : decode cX7_goes 160 = .ok (.imul, 1) := by decide +kernel
theorem dX7_goes_161 : decode cX7_goes 161 = .ok (.iconst 1, 1) := by decide +kernel
theorem dX7_goes_162 : decode cX7_goes 162 = .ok (.iadd, 1) := by decide +kernel
theorem dX7_goes_163 : decode cX7_goes 163 = .ok (.iaload, 1) := by decide +kernel
theorem dX7_goes_164 : decode cX7_goes 164 = .ok (.ifCond .ne 7, 3) := by decide +kernel
theorem dX7_goes_167 : decode cX7_goes 167 = .ok (.iconst 1, 1) := by decide +kernel
theorem dX7_goes_168 : decode cX7_goes 168 = .ok (.goto 4, 3) := by decide +kernel
theorem dX7_goes_171 : decode cX7_goes 171 = .ok (.iconst 0, 1) := by decide +kernel
theorem dX7_goes_172 : decode cX7_goes 172 = .ok (.istore 7, 2) := by decide +kernel
theorem dX7_goes_174 : decode cX7_goes 174 = .ok (.iload 7, 2) := by decide +kernel
theorem dX7_goes_176 : decode cX7_goes 176 = .ok (.ifCond .eq 21, 3) := by decide +kernel
theorem dX7_goes_179 : decode cX7_goes 179 = .ok (.aload_n 0, 1) := by decide +kernel
theorem dX7_goes_180 : decode cX7_goes 180 = .ok (.getfield 174, 3) := by decide +kernel
theorem dX7_goes_183 : decode cX7_goes 183 = .ok (.ifCond .ne 14, 3) := by decide +kernel
theorem dX7_goes_186 : decode cX7_goes 186 = .ok (.aload_n 0, 1) := by decide +kernel
theorem dX7_goes_187 : decode cX7_goes 187 = .ok (.iload_n 1, 1) := by decide +kernel
theorem dX7_goes_188 : decode cX7_goes 188 = .ok (.putfield 180, 3) := by decide +kernel
theorem dX7_goes_191 : decode cX7_goes 191 = .ok (.aload_n 0, 1) := by decide +kernel
theorem dX7_goes_192 : decode cX7_goes 192 = .ok (.iload 4, 2) := by decide +kernel
theorem dX7_goes_194 : decode cX7_goes 194 = .ok (.putfield 183, 3) := by decide +kernel
theorem dX7_goes_197 : decode cX7_goes 197 = .ok (.aload_n 0, 1) := by decide +kernel
theorem dX7_goes_198 : decode cX7_goes 198 = .ok (.dup, 1) := by decide +kernel
theorem dX7_goes_199 : decode cX7_goes 199 = .ok (.getfield 174, 3) := by decide +kernel
theorem dX7_goes_202 : decode cX7_goes 202 = .ok (.iload 7, 2) := by decide +kernel
theorem dX7_goes_204 : decode cX7_goes 204 = .ok (.ifCond .eq 10, 3) := by decide +kernel
theorem dX7_goes_207 : decode cX7_goes 207 = .ok (.iconst 1, 1) := by decide +kernel
theorem dX7_goes_208 : decode cX7_goes 208 = .ok (.iload 4, 2) := by decide +kernel
theorem dX7_goes_210 : decode cX7_goes 210 = .ok (.ishl, 1) := by decide +kernel
theorem dX7_goes_211 : decode cX7_goes 211 = .ok (.goto 4, 3) := by decide +kernel
theorem dX7_goes_214 : decode cX7_goes 214 = .ok (.iconst 0, 1) := by decide +kernel
theorem dX7_goes_215 : decode cX7_goes 215 = .ok (.ior, 1) := by decide +kernel
theorem dX7_goes_216 : decode cX7_goes 216 = .ok (.putfield 174, 3) := by decide +kernel
theorem dX7_goes_219 : decode cX7_goes 219 = .ok (.iinc 3 1, 3) := by decide +kernel
theorem dX7_goes_222 : decode cX7_goes 222 = .ok (.goto (-188), 3) := by decide +kernel
theorem dX7_goes_225 : decode cX7_goes 225 = .ok (.return_, 1) := by decide +kernel
theorem dX7_lives_0 : decode cX7_lives 0 = .ok (.aload_n 0, 1) := by decide +kernel
theorem dX7_lives_1 : decode cX7_lives 1 = .ok (.invokevirtual 189, 3) := by decide +kernel
theorem dX7_lives_4 : decode cX7_lives 4 = .ok (.iconst 0, 1) := by decide +kernel
theorem dX7_lives_5 : decode cX7_lives 5 = .ok (.istore_n 2, 1) := by decide +kernel
theorem dX7_lives_6 : decode cX7_lives 6 = .ok (.iload_n 2, 1) := by decide +kernel
theorem dX7_lives_7 : decode cX7_lives 7 = .ok (.iload_n 1, 1) := by decide +kernel
theorem dX7_lives_8 : decode cX7_lives 8 = .ok (.if_icmp .gt 52, 3) := by decide +kernel
theorem dX7_lives_11 : decode cX7_lives 11 = .ok (.iconst 0, 1) := by decide +kernel
theorem dX7_lives_12 : decode cX7_lives 12 = .ok (.istore_n 3, 1) := by decide +kernel
theorem dX7_lives_13 : decode cX7_lives 13 = .ok (.iload_n 3, 1) := by decide +kernel
theorem dX7_lives_14 : decode cX7_lives 14 = .ok (.aload_n 0, 1) := by decide +kernel
theorem dX7_lives_15 : decode cX7_lives 15 = .ok (.getfield 169, 3) := by decide +kernel
theorem dX7_lives_18 : decode cX7_lives 18 = .ok (.if_icmp .ge 36, 3) := by decide +kernel
theorem dX7_lives_21 : decode cX7_lives 21 = .ok (.aload_n 0, 1) := by decide +kernel
theorem dX7_lives_22 : decode cX7_lives 22 = .ok (.getfield 40, 3) := by decide +kernel
theorem dX7_lives_25 : decode cX7_lives 25 = .ok (.iconst 2, 1) := by decide +kernel
theorem dX7_lives_26 : decode cX7_lives 26 = .ok (.iload_n 3, 1) := by decide +kernel
theorem dX7_lives_27 : decode cX7_lives 27 = .ok (.imul, 1) := by decide +kernel
theorem dX7_lives_28 : decode cX7_lives 28 = .ok (.iaload, 1) := by decide +kernel
theorem dX7_lives_29 : decode cX7_lives 29 = .ok (.iload_n 2, 1) := by decide +kernel
theorem dX7_lives_30 : decode cX7_lives 30 = .ok (.if_icmp .ne 18, 3) := by decide +kernel
theorem dX7_lives_33 : decode cX7_lives 33 = .ok (.aload_n 0, 1) := by decide +kernel
theorem dX7_lives_34 : decode cX7_lives 34 = .ok (.iload_n 2, 1) := by decide +kernel
theorem dX7_lives_35 : decode cX7_lives 35 = .ok (.aload_n 0, 1) := by decide +kernel
theorem dX7_lives_36 : decode cX7_lives 36 = .ok (.getfield 40, 3) := by decide +kernel
theorem dX7_lives_39 : decode cX7_lives 39 = .ok (.iconst 2, 1) := by decide +kernel
theorem dX7_lives_40 : decode cX7_lives 40 = .ok (.iload_n 3, 1) := by decide +kernel
theorem dX7_lives_41 : decode cX7_lives 41 = .ok (.imul, 1) := by decide +kernel
theorem dX7_lives_42 : decode cX7_lives 42 = .ok (.iconst 1, 1) := by decide +kernel
theorem dX7_lives_43 : decode cX7_lives 43 = .ok (.iadd, 1) := by decide +kernel
theorem dX7_lives_44 : decode cX7_lives 44 = .ok (.iaload, 1) := by decide +kernel
theorem dX7_lives_45 : decode cX7_lives 45 = .ok (.invokevirtual 192, 3) := by decide +kernel
theorem dX7_lives_48 : decode cX7_lives 48 = .ok (.iinc 3 1, 3) := by decide +kernel
theorem dX7_lives_51 : decode cX7_lives 51 = .ok (.goto (-38), 3) := by decide +kernel
theorem dX7_lives_54 : decode cX7_lives 54 = .ok (.iinc 2 1, 3) := by decide +kernel
theorem dX7_lives_57 : decode cX7_lives 57 = .ok (.goto (-51), 3) := by decide +kernel
theorem dX7_lives_60 : decode cX7_lives 60 = .ok (.return_, 1) := by decide +kernel
theorem dX7_leftOf_0 : decode cX7_leftOf 0 = .ok (.aload_n 0, 1) := by decide +kernel
theorem dX7_leftOf_1 : decode cX7_leftOf 1 = .ok (.iload_n 1, 1) := by decide +kernel
theorem dX7_leftOf_2 : decode cX7_leftOf 2 = .ok (.invokevirtual 196, 3) := by decide +kernel
theorem dX7_leftOf_5 : decode cX7_leftOf 5 = .ok (.aload_n 0, 1) := by decide +kernel
theorem dX7_leftOf_6 : decode cX7_leftOf 6 = .ok (.getfield 43, 3) := by decide +kernel
theorem dX7_leftOf_9 : decode cX7_leftOf 9 = .ok (.iload_n 2, 1) := by decide +kernel
theorem dX7_leftOf_10 : decode cX7_leftOf 10 = .ok (.iaload, 1) := by decide +kernel
theorem dX7_leftOf_11 : decode cX7_leftOf 11 = .ok (.ireturn, 1) := by decide +kernel
theorem dX7_left_0 : decode cX7_left 0 = .ok (.aload_n 0, 1) := by decide +kernel
theorem dX7_left_1 : decode cX7_left 1 = .ok (.invokevirtual 124, 3) := by decide +kernel
theorem dX7_left_4 : decode cX7_left 4 = .ok (.iload_n 1, 1) := by decide +kernel
theorem dX7_left_5 : decode cX7_left 5 = .ok (.invokestatic 164, 3) := by decide +kernel
theorem dX7_left_8 : decode cX7_left 8 = .ok (.ifCond .eq 20, 3) := by decide +kernel
theorem dX7_left_11 : decode cX7_left 11 = .ok (.aload_n 0, 1) := by decide +kernel
theorem dX7_left_12 : decode cX7_left 12 = .ok (.iload_n 2, 1) := by decide +kernel
theorem dX7_left_13 : decode cX7_left 13 = .ok (.invokevirtual 133, 3) := by decide +kernel
theorem dX7_left_16 : decode cX7_left 16 = .ok (.ifCond .eq 12, 3) := by decide +kernel
theorem dX7_left_19 : decode cX7_left 19 = .ok (.aload_n 0, 1) := by decide +kernel
theorem dX7_left_20 : decode cX7_left 20 = .ok (.iload_n 1, 1) := by decide +kernel
theorem dX7_left_21 : decode cX7_left 21 = .ok (.iload_n 2, 1) := by decide +kernel
theorem dX7_left_22 : decode cX7_left 22 = .ok (.invokevirtual 200, 3) := by decide +kernel
theorem dX7_left_25 : decode cX7_left 25 = .ok (.goto 5, 3) := by decide +kernel
theorem dX7_left_28 : decode cX7_left 28 = .ok (.bipush (-2), 2) := by decide +kernel
theorem dX7_left_30 : decode cX7_left 30 = .ok (.ireturn, 1) := by decide +kernel
theorem dX7_behindOf_0 : decode cX7_behindOf 0 = .ok (.aload_n 0, 1) := by decide +kernel
theorem dX7_behindOf_1 : decode cX7_behindOf 1 = .ok (.iload_n 1, 1) := by decide +kernel
theorem dX7_behindOf_2 : decode cX7_behindOf 2 = .ok (.invokevirtual 196, 3) := by decide +kernel
theorem dX7_behindOf_5 : decode cX7_behindOf 5 = .ok (.iload_n 2, 1) := by decide +kernel
theorem dX7_behindOf_6 : decode cX7_behindOf 6 = .ok (.ifCond .ne 10, 3) := by decide +kernel
theorem dX7_behindOf_9 : decode cX7_behindOf 9 = .ok (.aload_n 0, 1) := by decide +kernel
theorem dX7_behindOf_10 : decode cX7_behindOf 10 = .ok (.getfield 174, 3) := by decide +kernel
theorem dX7_behindOf_13 : decode cX7_behindOf 13 = .ok (.goto 7, 3) := by decide +kernel
theorem dX7_behindOf_16 : decode cX7_behindOf 16 = .ok (.aload_n 0, 1) := by decide +kernel
theorem dX7_behindOf_17 : decode cX7_behindOf 17 = .ok (.getfield 177, 3) := by decide +kernel
theorem dX7_behindOf_20 : decode cX7_behindOf 20 = .ok (.ireturn, 1) := by decide +kernel
theorem dX7_behind_0 : decode cX7_behind 0 = .ok (.aload_n 0, 1) := by decide +kernel
theorem dX7_behind_1 : decode cX7_behind 1 = .ok (.invokevirtual 124, 3) := by decide +kernel
theorem dX7_behind_4 : decode cX7_behind 4 = .ok (.iload_n 1, 1) := by decide +kernel
theorem dX7_behind_5 : decode cX7_behind 5 = .ok (.invokestatic 164, 3) := by decide +kernel
theorem dX7_behind_8 : decode cX7_behind 8 = .ok (.ifCond .eq 19, 3) := by decide +kernel
theorem dX7_behind_11 : decode cX7_behind 11 = .ok (.iload_n 2, 1) := by decide +kernel
theorem dX7_behind_12 : decode cX7_behind 12 = .ok (.invokestatic 130, 3) := by decide +kernel
theorem dX7_behind_15 : decode cX7_behind 15 = .ok (.ifCond .eq 12, 3) := by decide +kernel
theorem dX7_behind_18 : decode cX7_behind 18 = .ok (.aload_n 0, 1) := by decide +kernel
theorem dX7_behind_19 : decode cX7_behind 19 = .ok (.iload_n 1, 1) := by decide +kernel
theorem dX7_behind_20 : decode cX7_behind 20 = .ok (.iload_n 2, 1) := by decide +kernel
theorem dX7_behind_21 : decode cX7_behind 21 = .ok (.invokevirtual 203, 3) := by decide +kernel
theorem dX7_behind_24 : decode cX7_behind 24 = .ok (.goto 5, 3) := by decide +kernel
theorem dX7_behind_27 : decode cX7_behind 27 = .ok (.bipush (-2), 2) := by decide +kernel
theorem dX7_behind_29 : decode cX7_behind 29 = .ok (.ireturn, 1) := by decide +kernel
theorem dX7_paidOf_0 : decode cX7_paidOf 0 = .ok (.aload_n 0, 1) := by decide +kernel
theorem dX7_paidOf_1 : decode cX7_paidOf 1 = .ok (.iload_n 1, 1) := by decide +kernel
theorem dX7_paidOf_2 : decode cX7_paidOf 2 = .ok (.invokevirtual 196, 3) := by decide +kernel
theorem dX7_paidOf_5 : decode cX7_paidOf 5 = .ok (.aload_n 0, 1) := by decide +kernel
theorem dX7_paidOf_6 : decode cX7_paidOf 6 = .ok (.getfield 46, 3) := by decide +kernel
theorem dX7_paidOf_9 : decode cX7_paidOf 9 = .ok (.iload_n 2, 1) := by decide +kernel
theorem dX7_paidOf_10 : decode cX7_paidOf 10 = .ok (.iaload, 1) := by decide +kernel
theorem dX7_paidOf_11 : decode cX7_paidOf 11 = .ok (.ireturn, 1) := by decide +kernel
theorem dX7_paid_0 : decode cX7_paid 0 = .ok (.aload_n 0, 1) := by decide +kernel
theorem dX7_paid_1 : decode cX7_paid 1 = .ok (.invokevirtual 124, 3) := by decide +kernel
theorem dX7_paid_4 : decode cX7_paid 4 = .ok (.iload_n 1, 1) := by decide +kernel
theorem dX7_paid_5 : decode cX7_paid 5 = .ok (.invokestatic 164, 3) := by decide +kernel
theorem dX7_paid_8 : decode cX7_paid 8 = .ok (.ifCond .eq 20, 3) := by decide +kernel
theorem dX7_paid_11 : decode cX7_paid 11 = .ok (.aload_n 0, 1) := by decide +kernel
theorem dX7_paid_12 : decode cX7_paid 12 = .ok (.iload_n 2, 1) := by decide +kernel
theorem dX7_paid_13 : decode cX7_paid 13 = .ok (.invokevirtual 127, 3) := by decide +kernel
theorem dX7_paid_16 : decode cX7_paid 16 = .ok (.ifCond .eq 12, 3) := by decide +kernel
theorem dX7_paid_19 : decode cX7_paid 19 = .ok (.aload_n 0, 1) := by decide +kernel
theorem dX7_paid_20 : decode cX7_paid 20 = .ok (.iload_n 1, 1) := by decide +kernel
theorem dX7_paid_21 : decode cX7_paid 21 = .ok (.iload_n 2, 1) := by decide +kernel
theorem dX7_paid_22 : decode cX7_paid 22 = .ok (.invokevirtual 206, 3) := by decide +kernel
theorem dX7_paid_25 : decode cX7_paid 25 = .ok (.goto 5, 3) := by decide +kernel
theorem dX7_paid_28 : decode cX7_paid 28 = .ok (.bipush (-2), 2) := by decide +kernel
theorem dX7_paid_30 : decode cX7_paid 30 = .ok (.ireturn, 1) := by decide +kernel
theorem dX7_firstOf_0 : decode cX7_firstOf 0 = .ok (.aload_n 0, 1) := by decide +kernel
theorem dX7_firstOf_1 : decode cX7_firstOf 1 = .ok (.bipush 29, 2) := by decide +kernel
theorem dX7_firstOf_3 : decode cX7_firstOf 3 = .ok (.invokevirtual 196, 3) := by decide +kernel
theorem dX7_firstOf_6 : decode cX7_firstOf 6 = .ok (.iload_n 1, 1) := by decide +kernel
theorem dX7_firstOf_7 : decode cX7_firstOf 7 = .ok (.ifCond .ne 10, 3) := by decide +kernel
theorem dX7_firstOf_10 : decode cX7_firstOf 10 = .ok (.aload_n 0, 1) := by decide +kernel
theorem dX7_firstOf_11 : decode cX7_firstOf 11 = .ok (.getfield 180, 3) := by decide +kernel
theorem dX7_firstOf_14 : decode cX7_firstOf 14 = .ok (.goto 7, 3) := by decide +kernel
theorem dX7_firstOf_17 : decode cX7_firstOf 17 = .ok (.aload_n 0, 1) := by decide +kernel
theorem dX7_firstOf_18 : decode cX7_firstOf 18 = .ok (.getfield 183, 3) := by decide +kernel
theorem dX7_firstOf_21 : decode cX7_firstOf 21 = .ok (.ireturn, 1) := by decide +kernel
theorem dX7_first_0 : decode cX7_first 0 = .ok (.aload_n 0, 1) := by decide +kernel
theorem dX7_first_1 : decode cX7_first 1 = .ok (.invokevirtual 124, 3) := by decide +kernel
theorem dX7_first_4 : decode cX7_first 4 = .ok (.iload_n 1, 1) := by decide +kernel
theorem dX7_first_5 : decode cX7_first 5 = .ok (.invokestatic 130, 3) := by decide +kernel
theorem dX7_first_8 : decode cX7_first 8 = .ok (.ifCond .eq 11, 3) := by decide +kernel
theorem dX7_first_11 : decode cX7_first 11 = .ok (.aload_n 0, 1) := by decide +kernel
theorem dX7_first_12 : decode cX7_first 12 = .ok (.iload_n 1, 1) := by decide +kernel
theorem dX7_first_13 : decode cX7_first 13 = .ok (.invokevirtual 209, 3) := by decide +kernel
theorem dX7_first_16 : decode cX7_first 16 = .ok (.goto 5, 3) := by decide +kernel
theorem dX7_first_19 : decode cX7_first 19 = .ok (.bipush (-2), 2) := by decide +kernel
theorem dX7_first_21 : decode cX7_first 21 = .ok (.ireturn, 1) := by decide +kernel
theorem dX7_alone_0 : decode cX7_alone 0 = .ok (.aload_n 0, 1) := by decide +kernel
theorem dX7_alone_1 : decode cX7_alone 1 = .ok (.invokevirtual 189, 3) := by decide +kernel
theorem dX7_alone_4 : decode cX7_alone 4 = .ok (.aload_n 0, 1) := by decide +kernel
theorem dX7_alone_5 : decode cX7_alone 5 = .ok (.iconst 0, 1) := by decide +kernel
theorem dX7_alone_6 : decode cX7_alone 6 = .ok (.iload_n 1, 1) := by decide +kernel
theorem dX7_alone_7 : decode cX7_alone 7 = .ok (.invokevirtual 192, 3) := by decide +kernel
theorem dX7_alone_10 : decode cX7_alone 10 = .ok (.return_, 1) := by decide +kernel
theorem dX7_safeNow_0 : decode cX7_safeNow 0 = .ok (.iconst 0, 1) := by decide +kernel
theorem dX7_safeNow_1 : decode cX7_safeNow 1 = .ok (.istore_n 1, 1) := by decide +kernel
theorem dX7_safeNow_2 : decode cX7_safeNow 2 = .ok (.iconst 0, 1) := by decide +kernel
theorem dX7_safeNow_3 : decode cX7_safeNow 3 = .ok (.istore_n 2, 1) := by decide +kernel
theorem dX7_safeNow_4 : decode cX7_safeNow 4 = .ok (.iload_n 2, 1) := by decide +kernel
theorem dX7_safeNow_5 : decode cX7_safeNow 5 = .ok (.aload_n 0, 1) := by decide +kernel
theorem dX7_safeNow_6 : decode cX7_safeNow 6 = .ok (.getfield 28, 3) := by decide +kernel
theorem dX7_safeNow_9 : decode cX7_safeNow 9 = .ok (.iconst 0, 1) := by decide +kernel
theorem dX7_safeNow_10 : decode cX7_safeNow 10 = .ok (.iaload, 1) := by decide +kernel
theorem dX7_safeNow_11 : decode cX7_safeNow 11 = .ok (.if_icmp .ge 31, 3) := by decide +kernel
theorem dX7_safeNow_14 : decode cX7_safeNow 14 = .ok (.aload_n 0, 1) := by decide +kernel
theorem dX7_safeNow_15 : decode cX7_safeNow 15 = .ok (.iload_n 2, 1) := by decide +kernel
theorem dX7_safeNow_16 : decode cX7_safeNow 16 = .ok (.invokevirtual 212, 3) := by decide +kernel
theorem dX7_safeNow_19 : decode cX7_safeNow 19 = .ok (.iload_n 1, 1) := by decide +kernel
theorem dX7_safeNow_20 : decode cX7_safeNow 20 = .ok (.aload_n 0, 1) := by decide +kernel
theorem dX7_safeNow_21 : decode cX7_safeNow 21 = .ok (.getfield 174, 3) := by decide +kernel
theorem dX7_safeNow_24 : decode cX7_safeNow 24 = .ok (.ifCond .ne 9, 3) := by decide +kernel
theorem dX7_safeNow_27 : decode cX7_safeNow 27 = .ok (.iconst 1, 1) := by decide +kernel
theorem dX7_safeNow_28 : decode cX7_safeNow 28 = .ok (.iload_n 2, 1) := by decide +kernel
theorem dX7_safeNow_29 : decode cX7_safeNow 29 = .ok (.ishl, 1) := by decide +kernel
theorem dX7_safeNow_30 : decode cX7_safeNow 30 = .ok (.goto 4, 3) := by decide +kernel
theorem dX7_safeNow_33 : decode cX7_safeNow 33 = .ok (.iconst 0, 1) := by decide +kernel
theorem dX7_safeNow_34 : decode cX7_safeNow 34 = .ok (.ior, 1) := by decide +kernel
theorem dX7_safeNow_35 : decode cX7_safeNow 35 = .ok (.istore_n 1, 1) := by decide +kernel
theorem dX7_safeNow_36 : decode cX7_safeNow 36 = .ok (.iinc 2 1, 3) := by decide +kernel
theorem dX7_safeNow_39 : decode cX7_safeNow 39 = .ok (.goto (-35), 3) := by decide +kernel
theorem dX7_safeNow_42 : decode cX7_safeNow 42 = .ok (.iload_n 1, 1) := by decide +kernel
theorem dX7_safeNow_43 : decode cX7_safeNow 43 = .ok (.ireturn, 1) := by decide +kernel
theorem dX7_safe_0 : decode cX7_safe 0 = .ok (.aload_n 0, 1) := by decide +kernel
theorem dX7_safe_1 : decode cX7_safe 1 = .ok (.invokevirtual 124, 3) := by decide +kernel
theorem dX7_safe_4 : decode cX7_safe 4 = .ok (.aload_n 0, 1) := by decide +kernel
theorem dX7_safe_5 : decode cX7_safe 5 = .ok (.invokevirtual 215, 3) := by decide +kernel
theorem dX7_safe_8 : decode cX7_safe 8 = .ok (.ireturn, 1) := by decide +kernel
theorem dX7_haveAll_0 : decode cX7_haveAll 0 = .ok (.iconst 0, 1) := by decide +kernel
theorem dX7_haveAll_1 : decode cX7_haveAll 1 = .ok (.istore_n 2, 1) := by decide +kernel
theorem dX7_haveAll_2 : decode cX7_haveAll 2 = .ok (.iconst 0, 1) := by decide +kernel
theorem dX7_haveAll_3 : decode cX7_haveAll 3 = .ok (.istore_n 3, 1) := by decide +kernel
theorem dX7_haveAll_4 : decode cX7_haveAll 4 = .ok (.iload_n 3, 1) := by decide +kernel
theorem dX7_haveAll_5 : decode cX7_haveAll 5 = .ok (.aload_n 0, 1) := by decide +kernel
theorem dX7_haveAll_6 : decode cX7_haveAll 6 = .ok (.getfield 28, 3) := by decide +kernel
theorem dX7_haveAll_9 : decode cX7_haveAll 9 = .ok (.iconst 1, 1) := by decide +kernel
theorem dX7_haveAll_10 : decode cX7_haveAll 10 = .ok (.iaload, 1) := by decide +kernel
theorem dX7_haveAll_11 : decode cX7_haveAll 11 = .ok (.if_icmp .ge 32, 3) := by decide +kernel
theorem dX7_haveAll_14 : decode cX7_haveAll 14 = .ok (.iload_n 2, 1) := by decide +kernel
theorem dX7_haveAll_15 : decode cX7_haveAll 15 = .ok (.iload_n 1, 1) := by decide +kernel
theorem dX7_haveAll_16 : decode cX7_haveAll 16 = .ok (.iload_n 3, 1) := by decide +kernel
theorem dX7_haveAll_17 : decode cX7_haveAll 17 = .ok (.invokestatic 139, 3) := by decide +kernel
theorem dX7_haveAll_20 : decode cX7_haveAll 20 = .ok (.ifCond .eq 14, 3) := by decide +kernel
theorem dX7_haveAll_23 : decode cX7_haveAll 23 = .ok (.aload_n 0, 1) := by decide +kernel
theorem dX7_haveAll_24 : decode cX7_haveAll 24 = .ok (.getfield 34, 3) := by decide +kernel
theorem dX7_haveAll_27 : decode cX7_haveAll 27 = .ok (.iconst 3, 1) := by decide +kernel
theorem dX7_haveAll_28 : decode cX7_haveAll 28 = .ok (.iload_n 3, 1) := by decide +kernel
theorem dX7_haveAll_29 : decode cX7_haveAll 29 = .ok (.imul, 1) := by decide +kernel
theorem dX7_haveAll_30 : decode cX7_haveAll 30 = .ok (.iaload, 1) := by decide +kernel
theorem dX7_haveAll_31 : decode cX7_haveAll 31 = .ok (.goto 4, 3) := by decide +kernel
theorem dX7_haveAll_34 : decode cX7_haveAll 34 = .ok (.iconst 0, 1) := by decide +kernel
theorem dX7_haveAll_35 : decode cX7_haveAll 35 = .ok (.iadd, 1) := by decide +kernel
theorem dX7_haveAll_36 : decode cX7_haveAll 36 = .ok (.istore_n 2, 1) := by decide +kernel
theorem dX7_haveAll_37 : decode cX7_haveAll 37 = .ok (.iinc 3 1, 3) := by decide +kernel
theorem dX7_haveAll_40 : decode cX7_haveAll 40 = .ok (.goto (-36), 3) := by decide +kernel
theorem dX7_haveAll_43 : decode cX7_haveAll 43 = .ok (.iload_n 2, 1) := by decide +kernel
theorem dX7_haveAll_44 : decode cX7_haveAll 44 = .ok (.ireturn, 1) := by decide +kernel
theorem dX7_takeOf_0 : decode cX7_takeOf 0 = .ok (.iconst (-1), 1) := by decide +kernel
theorem dX7_takeOf_1 : decode cX7_takeOf 1 = .ok (.istore_n 2, 1) := by decide +kernel
theorem dX7_takeOf_2 : decode cX7_takeOf 2 = .ok (.iconst 0, 1) := by decide +kernel
theorem dX7_takeOf_3 : decode cX7_takeOf 3 = .ok (.istore_n 3, 1) := by decide +kernel
theorem dX7_takeOf_4 : decode cX7_takeOf 4 = .ok (.iload_n 3, 1) := by decide +kernel
theorem dX7_takeOf_5 : decode cX7_takeOf 5 = .ok (.iconst 1, 1) := by decide +kernel
theorem dX7_takeOf_6 : decode cX7_takeOf 6 = .ok (.aload_n 0, 1) := by decide +kernel
theorem dX7_takeOf_7 : decode cX7_takeOf 7 = .ok (.getfield 28, 3) := by decide +kernel
theorem dX7_takeOf_10 : decode cX7_takeOf 10 = .ok (.iconst 1, 1) := by decide +kernel
theorem dX7_takeOf_11 : decode cX7_takeOf 11 = .ok (.iaload, 1) := by decide +kernel
theorem dX7_takeOf_12 : decode cX7_takeOf 12 = .ok (.ishl, 1) := by decide +kernel
theorem dX7_takeOf_13 : decode cX7_takeOf 13 = .ok (.if_icmp .ge 93, 3) := by decide +kernel
theorem dX7_takeOf_16 : decode cX7_takeOf 16 = .ok (.aload_n 0, 1) := by decide +kernel
theorem dX7_takeOf_17 : decode cX7_takeOf 17 = .ok (.iload_n 3, 1) := by decide +kernel
theorem dX7_takeOf_18 : decode cX7_takeOf 18 = .ok (.invokevirtual 219, 3) := by decide +kernel
theorem dX7_takeOf_21 : decode cX7_takeOf 21 = .ok (.istore 4, 2) := by decide +kernel
theorem dX7_takeOf_23 : decode cX7_takeOf 23 = .ok (.iload_n 3, 1) := by decide +kernel
theorem dX7_takeOf_24 : decode cX7_takeOf 24 = .ok (.aload_n 0, 1) := by decide +kernel
theorem dX7_takeOf_25 : decode cX7_takeOf 25 = .ok (.getfield 136, 3) := by decide +kernel
theorem dX7_takeOf_28 : decode cX7_takeOf 28 = .ok (.iand, 1) := by decide +kernel
theorem dX7_takeOf_29 : decode cX7_takeOf 29 = .ok (.ifCond .ne 71, 3) := by decide +kernel
theorem dX7_takeOf_32 : decode cX7_takeOf 32 = .ok (.iload 4, 2) := by decide +kernel
theorem dX7_takeOf_34 : decode cX7_takeOf 34 = .ok (.aload_n 0, 1) := by decide +kernel
theorem dX7_takeOf_35 : decode cX7_takeOf 35 = .ok (.getfield 31, 3) := by decide +kernel
theorem dX7_takeOf_38 : decode cX7_takeOf 38 = .ok (.iconst 2, 1) := by decide +kernel
theorem dX7_takeOf_39 : decode cX7_takeOf 39 = .ok (.iload_n 1, 1) := by decide +kernel
theorem dX7_takeOf_40 : decode cX7_takeOf 40 = .ok (.imul, 1) := by decide +kernel
theorem dX7_takeOf_41 : decode cX7_takeOf 41 = .ok (.iaload, 1) := by decide +kernel
theorem dX7_takeOf_42 : decode cX7_takeOf 42 = .ok (.if_icmp .lt 58, 3) := by decide +kernel
theorem dX7_takeOf_45 : decode cX7_takeOf 45 = .ok (.iload_n 2, 1) := by decide +kernel
theorem dX7_takeOf_46 : decode cX7_takeOf 46 = .ok (.iconst (-1), 1) := by decide +kernel
theorem dX7_takeOf_47 : decode cX7_takeOf 47 = .ok (.if_icmp .eq 35, 3) := by decide +kernel
theorem dX7_takeOf_50 : decode cX7_takeOf 50 = .ok (.iload_n 3, 1) := by decide +kernel
theorem dX7_takeOf_51 : decode cX7_takeOf 51 = .ok (.invokestatic 222, 3) := by decide +kernel
theorem dX7_takeOf_54 : decode cX7_takeOf 54 = .ok (.iload_n 2, 1) := by decide +kernel
theorem dX7_takeOf_55 : decode cX7_takeOf 55 = .ok (.invokestatic 222, 3) := by decide +kernel
theorem dX7_takeOf_58 : decode cX7_takeOf 58 = .ok (.if_icmp .lt 24, 3) := by decide +kernel
theorem dX7_takeOf_61 : decode cX7_takeOf 61 = .ok (.iload_n 3, 1) := by decide +kernel
theorem dX7_takeOf_62 : decode cX7_takeOf 62 = .ok (.invokestatic 222, 3) := by decide +kernel
theorem dX7_takeOf_65 : decode cX7_takeOf 65 = .ok (.iload_n 2, 1) := by decide +kernel
theorem dX7_takeOf_66 : decode cX7_takeOf 66 = .ok (.invokestatic 222, 3) := by decide +kernel
theorem dX7_takeOf_69 : decode cX7_takeOf 69 = .ok (.if_icmp .ne 17, 3) := by decide +kernel
theorem dX7_takeOf_72 : decode cX7_takeOf 72 = .ok (.iload 4, 2) := by decide +kernel
theorem dX7_takeOf_74 : decode cX7_takeOf 74 = .ok (.aload_n 0, 1) := by decide +kernel
theorem dX7_takeOf_75 : decode cX7_takeOf 75 = .ok (.iload_n 2, 1) := by decide +kernel
theorem dX7_takeOf_76 : decode cX7_takeOf 76 = .ok (.invokevirtual 219, 3) := by decide +kernel
theorem dX7_takeOf_79 : decode cX7_takeOf 79 = .ok (.if_icmp .ge 7, 3) := by decide +kernel
theorem dX7_takeOf_82 : decode cX7_takeOf 82 = .ok (.iconst 1, 1) := by decide +kernel
theorem dX7_takeOf_83 : decode cX7_takeOf 83 = .ok (.goto 4, 3) := by decide +kernel
theorem dX7_takeOf_86 : decode cX7_takeOf 86 = .ok (.iconst 0, 1) := by decide +kernel
theorem dX7_takeOf_87 : decode cX7_takeOf 87 = .ok (.istore 5, 2) := by decide +kernel
theorem dX7_takeOf_89 : decode cX7_takeOf 89 = .ok (.iload 5, 2) := by decide +kernel
theorem dX7_takeOf_91 : decode cX7_takeOf 91 = .ok (.ifCond .eq 7, 3) := by decide +kernel
theorem dX7_takeOf_94 : decode cX7_takeOf 94 = .ok (.iload_n 3, 1) := by decide +kernel
theorem dX7_takeOf_95 : decode cX7_takeOf 95 = .ok (.goto 4, 3) := by decide +kernel
theorem dX7_takeOf_98 : decode cX7_takeOf 98 = .ok (.iload_n 2, 1) := by decide +kernel
theorem dX7_takeOf_99 : decode cX7_takeOf 99 = .ok (.istore_n 2, 1) := by decide +kernel
theorem dX7_takeOf_100 : decode cX7_takeOf 100 = .ok (.iinc 3 1, 3) := by decide +kernel
theorem dX7_takeOf_103 : decode cX7_takeOf 103 = .ok (.goto (-99), 3) := by decide +kernel
theorem dX7_takeOf_106 : decode cX7_takeOf 106 = .ok (.iload_n 2, 1) := by decide +kernel
theorem dX7_takeOf_107 : decode cX7_takeOf 107 = .ok (.ireturn, 1) := by decide +kernel
theorem dX7_take_0 : decode cX7_take 0 = .ok (.aload_n 0, 1) := by decide +kernel
theorem dX7_take_1 : decode cX7_take 1 = .ok (.invokevirtual 124, 3) := by decide +kernel
theorem dX7_take_4 : decode cX7_take 4 = .ok (.aload_n 0, 1) := by decide +kernel
theorem dX7_take_5 : decode cX7_take 5 = .ok (.iload_n 1, 1) := by decide +kernel
theorem dX7_take_6 : decode cX7_take 6 = .ok (.invokevirtual 127, 3) := by decide +kernel
theorem dX7_take_9 : decode cX7_take 9 = .ok (.ifCond .eq 11, 3) := by decide +kernel
theorem dX7_take_12 : decode cX7_take 12 = .ok (.aload_n 0, 1) := by decide +kernel
theorem dX7_take_13 : decode cX7_take 13 = .ok (.iload_n 1, 1) := by decide +kernel
theorem dX7_take_14 : decode cX7_take 14 = .ok (.invokevirtual 225, 3) := by decide +kernel
theorem dX7_take_17 : decode cX7_take 17 = .ok (.goto 5, 3) := by decide +kernel
theorem dX7_take_20 : decode cX7_take 20 = .ok (.bipush (-2), 2) := by decide +kernel
theorem dX7_take_22 : decode cX7_take 22 = .ok (.ireturn, 1) := by decide +kernel
theorem dX7_borneAll_0 : decode cX7_borneAll 0 = .ok (.iconst 0, 1) := by decide +kernel
theorem dX7_borneAll_1 : decode cX7_borneAll 1 = .ok (.istore_n 2, 1) := by decide +kernel
theorem dX7_borneAll_2 : decode cX7_borneAll 2 = .ok (.iconst 0, 1) := by decide +kernel
theorem dX7_borneAll_3 : decode cX7_borneAll 3 = .ok (.istore_n 3, 1) := by decide +kernel
theorem dX7_borneAll_4 : decode cX7_borneAll 4 = .ok (.iload_n 3, 1) := by decide +kernel
theorem dX7_borneAll_5 : decode cX7_borneAll 5 = .ok (.aload_n 0, 1) := by decide +kernel
theorem dX7_borneAll_6 : decode cX7_borneAll 6 = .ok (.getfield 28, 3) := by decide +kernel
theorem dX7_borneAll_9 : decode cX7_borneAll 9 = .ok (.iconst 0, 1) := by decide +kernel
theorem dX7_borneAll_10 : decode cX7_borneAll 10 = .ok (.iaload, 1) := by decide +kernel
theorem dX7_borneAll_11 : decode cX7_borneAll 11 = .ok (.if_icmp .ge 18, 3) := by decide +kernel
theorem dX7_borneAll_14 : decode cX7_borneAll 14 = .ok (.iload_n 2, 1) := by decide +kernel
theorem dX7_borneAll_15 : decode cX7_borneAll 15 = .ok (.aload_n 0, 1) := by decide +kernel
theorem dX7_borneAll_16 : decode cX7_borneAll 16 = .ok (.iload_n 3, 1) := by decide +kernel
theorem dX7_borneAll_17 : decode cX7_borneAll 17 = .ok (.iload_n 1, 1) := by decide +kernel
theorem dX7_borneAll_18 : decode cX7_borneAll 18 = .ok (.invokevirtual 161, 3) := by decide +kernel
theorem dX7_borneAll_21 : decode cX7_borneAll 21 = .ok (.iadd, 1) := by decide +kernel
theorem dX7_borneAll_22 : decode cX7_borneAll 22 = .ok (.istore_n 2, 1) := by decide +kernel
theorem dX7_borneAll_23 : decode cX7_borneAll 23 = .ok (.iinc 3 1, 3) := by decide +kernel
theorem dX7_borneAll_26 : decode cX7_borneAll 26 = .ok (.goto (-22), 3) := by decide +kernel
theorem dX7_borneAll_29 : decode cX7_borneAll 29 = .ok (.iload_n 2, 1) := by decide +kernel
theorem dX7_borneAll_30 : decode cX7_borneAll 30 = .ok (.ireturn, 1) := by decide +kernel
theorem dX7_strikeOf_0 : decode cX7_strikeOf 0 = .ok (.aload_n 0, 1) := by decide +kernel
theorem dX7_strikeOf_1 : decode cX7_strikeOf 1 = .ok (.iload_n 1, 1) := by decide +kernel
theorem dX7_strikeOf_2 : decode cX7_strikeOf 2 = .ok (.invokevirtual 228, 3) := by decide +kernel
theorem dX7_strikeOf_5 : decode cX7_strikeOf 5 = .ok (.istore_n 3, 1) := by decide +kernel
theorem dX7_strikeOf_6 : decode cX7_strikeOf 6 = .ok (.aload_n 0, 1) := by decide +kernel
theorem dX7_strikeOf_7 : decode cX7_strikeOf 7 = .ok (.getfield 136, 3) := by decide +kernel
theorem dX7_strikeOf_10 : decode cX7_strikeOf 10 = .ok (.istore 4, 2) := by decide +kernel
theorem dX7_strikeOf_12 : decode cX7_strikeOf 12 = .ok (.aload_n 0, 1) := by decide +kernel
theorem dX7_strikeOf_13 : decode cX7_strikeOf 13 = .ok (.dup, 1) := by decide +kernel
theorem dX7_strikeOf_14 : decode cX7_strikeOf 14 = .ok (.getfield 136, 3) := by decide +kernel
theorem dX7_strikeOf_17 : decode cX7_strikeOf 17 = .ok (.iconst 1, 1) := by decide +kernel
theorem dX7_strikeOf_18 : decode cX7_strikeOf 18 = .ok (.iload_n 2, 1) := by decide +kernel
theorem dX7_strikeOf_19 : decode cX7_strikeOf 19 = .ok (.ishl, 1) := by decide +kernel
theorem dX7_strikeOf_20 : decode cX7_strikeOf 20 = .ok (.ior, 1) := by decide +kernel
theorem dX7_strikeOf_21 : decode cX7_strikeOf 21 = .ok (.putfield 136, 3) := by decide +kernel
theorem dX7_strikeOf_24 : decode cX7_strikeOf 24 = .ok (.aload_n 0, 1) := by decide +kernel
theorem dX7_strikeOf_25 : decode cX7_strikeOf 25 = .ok (.iload_n 1, 1) := by decide +kernel
theorem dX7_strikeOf_26 : decode cX7_strikeOf 26 = .ok (.invokevirtual 228, 3) := by decide +kernel
theorem dX7_strikeOf_29 : decode cX7_strikeOf 29 = .ok (.istore 5, 2) := by decide +kernel
theorem dX7_strikeOf_31 : decode cX7_strikeOf 31 = .ok (.aload_n 0, 1) := by decide +kernel
theorem dX7_strikeOf_32 : decode cX7_strikeOf 32 = .ok (.iload 4, 2) := by decide +kernel
theorem dX7_strikeOf_34 : decode cX7_strikeOf 34 = .ok (.putfield 136, 3) := by decide +kernel
theorem dX7_strikeOf_37 : decode cX7_strikeOf 37 = .ok (.iload 5, 2) := by decide +kernel
theorem dX7_strikeOf_39 : decode cX7_strikeOf 39 = .ok (.iload_n 3, 1) := by decide +kernel
theorem dX7_strikeOf_40 : decode cX7_strikeOf 40 = .ok (.isub, 1) := by decide +kernel
theorem dX7_strikeOf_41 : decode cX7_strikeOf 41 = .ok (.ireturn, 1) := by decide +kernel
theorem dX7_strike_0 : decode cX7_strike 0 = .ok (.aload_n 0, 1) := by decide +kernel
theorem dX7_strike_1 : decode cX7_strike 1 = .ok (.invokevirtual 124, 3) := by decide +kernel
theorem dX7_strike_4 : decode cX7_strike 4 = .ok (.aload_n 0, 1) := by decide +kernel
theorem dX7_strike_5 : decode cX7_strike 5 = .ok (.iload_n 1, 1) := by decide +kernel
theorem dX7_strike_6 : decode cX7_strike 6 = .ok (.invokevirtual 133, 3) := by decide +kernel
theorem dX7_strike_9 : decode cX7_strike 9 = .ok (.ifCond .eq 20, 3) := by decide +kernel
theorem dX7_strike_12 : decode cX7_strike 12 = .ok (.aload_n 0, 1) := by decide +kernel
theorem dX7_strike_13 : decode cX7_strike 13 = .ok (.iload_n 2, 1) := by decide +kernel
theorem dX7_strike_14 : decode cX7_strike 14 = .ok (.invokevirtual 133, 3) := by decide +kernel
theorem dX7_strike_17 : decode cX7_strike 17 = .ok (.ifCond .eq 12, 3) := by decide +kernel
theorem dX7_strike_20 : decode cX7_strike 20 = .ok (.aload_n 0, 1) := by decide +kernel
theorem dX7_strike_21 : decode cX7_strike 21 = .ok (.iload_n 1, 1) := by decide +kernel
theorem dX7_strike_22 : decode cX7_strike 22 = .ok (.iload_n 2, 1) := by decide +kernel
theorem dX7_strike_23 : decode cX7_strike 23 = .ok (.invokevirtual 231, 3) := by decide +kernel
theorem dX7_strike_26 : decode cX7_strike 26 = .ok (.goto 6, 3) := by decide +kernel
theorem dX7_strike_29 : decode cX7_strike 29 = .ok (.sipush (-1002), 3) := by decide +kernel
theorem dX7_strike_32 : decode cX7_strike 32 = .ok (.ireturn, 1) := by decide +kernel
theorem dX7_seen_0 : decode cX7_seen 0 = .ok (.iload_n 1, 1) := by decide +kernel
theorem dX7_seen_1 : decode cX7_seen 1 = .ok (.i2l, 1) := by decide +kernel
theorem dX7_seen_2 : decode cX7_seen 2 = .ok (.lconst 0, 1) := by decide +kernel
theorem dX7_seen_3 : decode cX7_seen 3 = .ok (.ldc2_w 167, 3) := by decide +kernel
theorem dX7_seen_6 : decode cX7_seen 6 = .ok (.invokestatic 61, 3) := by decide +kernel
theorem dX7_seen_9 : decode cX7_seen 9 = .ok (.ifCond .eq 15, 3) := by decide +kernel
theorem dX7_seen_12 : decode cX7_seen 12 = .ok (.iload_n 2, 1) := by decide +kernel
theorem dX7_seen_13 : decode cX7_seen 13 = .ok (.i2l, 1) := by decide +kernel
theorem dX7_seen_14 : decode cX7_seen 14 = .ok (.lconst 0, 1) := by decide +kernel
theorem dX7_seen_15 : decode cX7_seen 15 = .ok (.ldc2_w 234, 3) := by decide +kernel
theorem dX7_seen_18 : decode cX7_seen 18 = .ok (.invokestatic 61, 3) := by decide +kernel
theorem dX7_seen_21 : decode cX7_seen 21 = .ok (.ifCond .ne 6, 3) := by decide +kernel
theorem dX7_seen_24 : decode cX7_seen 24 = .ok (.bipush (-2), 2) := by decide +kernel
theorem dX7_seen_26 : decode cX7_seen 26 = .ok (.ireturn, 1) := by decide +kernel
theorem dX7_seen_27 : decode cX7_seen 27 = .ok (.aload_n 0, 1) := by decide +kernel
theorem dX7_seen_28 : decode cX7_seen 28 = .ok (.getfield 236, 3) := by decide +kernel
theorem dX7_seen_31 : decode cX7_seen 31 = .ok (.bipush 8, 2) := by decide +kernel
theorem dX7_seen_33 : decode cX7_seen 33 = .ok (.if_icmp .ne 6, 3) := by decide +kernel
theorem dX7_seen_36 : decode cX7_seen 36 = .ok (.bipush (-4), 2) := by decide +kernel
theorem dX7_seen_38 : decode cX7_seen 38 = .ok (.ireturn, 1) := by decide +kernel
theorem dX7_seen_39 : decode cX7_seen 39 = .ok (.aload_n 0, 1) := by decide +kernel
theorem dX7_seen_40 : decode cX7_seen 40 = .ok (.getfield 49, 3) := by decide +kernel
theorem dX7_seen_43 : decode cX7_seen 43 = .ok (.iconst 2, 1) := by decide +kernel
theorem dX7_seen_44 : decode cX7_seen 44 = .ok (.aload_n 0, 1) := by decide +kernel
theorem dX7_seen_45 : decode cX7_seen 45 = .ok (.getfield 236, 3) := by decide +kernel
theorem dX7_seen_48 : decode cX7_seen 48 = .ok (.imul, 1) := by decide +kernel
theorem dX7_seen_49 : decode cX7_seen 49 = .ok (.iload_n 1, 1) := by decide +kernel
theorem dX7_seen_50 : decode cX7_seen 50 = .ok (.iastore, 1) := by decide +kernel
theorem dX7_seen_51 : decode cX7_seen 51 = .ok (.aload_n 0, 1) := by decide +kernel
theorem dX7_seen_52 : decode cX7_seen 52 = .ok (.getfield 49, 3) := by decide +kernel
theorem dX7_seen_55 : decode cX7_seen 55 = .ok (.iconst 2, 1) := by decide +kernel
theorem dX7_seen_56 : decode cX7_seen 56 = .ok (.aload_n 0, 1) := by decide +kernel
theorem dX7_seen_57 : decode cX7_seen 57 = .ok (.getfield 236, 3) := by decide +kernel
theorem dX7_seen_60 : decode cX7_seen 60 = .ok (.imul, 1) := by decide +kernel
theorem dX7_seen_61 : decode cX7_seen 61 = .ok (.iconst 1, 1) := by decide +kernel
theorem dX7_seen_62 : decode cX7_seen 62 = .ok (.iadd, 1) := by decide +kernel
theorem dX7_seen_63 : decode cX7_seen 63 = .ok (.iload_n 2, 1) := by decide +kernel
theorem dX7_seen_64 : decode cX7_seen 64 = .ok (.iastore, 1) := by decide +kernel
theorem dX7_seen_65 : decode cX7_seen 65 = .ok (.aload_n 0, 1) := by decide +kernel
theorem dX7_seen_66 : decode cX7_seen 66 = .ok (.dup, 1) := by decide +kernel
theorem dX7_seen_67 : decode cX7_seen 67 = .ok (.getfield 236, 3) := by decide +kernel
theorem dX7_seen_70 : decode cX7_seen 70 = .ok (.iconst 1, 1) := by decide +kernel
theorem dX7_seen_71 : decode cX7_seen 71 = .ok (.iadd, 1) := by decide +kernel
theorem dX7_seen_72 : decode cX7_seen 72 = .ok (.putfield 236, 3) := by decide +kernel
theorem dX7_seen_75 : decode cX7_seen 75 = .ok (.aload_n 0, 1) := by decide +kernel
theorem dX7_seen_76 : decode cX7_seen 76 = .ok (.getfield 236, 3) := by decide +kernel
theorem dX7_seen_79 : decode cX7_seen 79 = .ok (.ireturn, 1) := by decide +kernel
theorem dX7_forget_0 : decode cX7_forget 0 = .ok (.aload_n 0, 1) := by decide +kernel
theorem dX7_forget_1 : decode cX7_forget 1 = .ok (.getfield 236, 3) := by decide +kernel
theorem dX7_forget_4 : decode cX7_forget 4 = .ok (.istore_n 1, 1) := by decide +kernel
theorem dX7_forget_5 : decode cX7_forget 5 = .ok (.aload_n 0, 1) := by decide +kernel
theorem dX7_forget_6 : decode cX7_forget 6 = .ok (.iconst 0, 1) := by decide +kernel
theorem dX7_forget_7 : decode cX7_forget 7 = .ok (.putfield 236, 3) := by decide +kernel
theorem dX7_forget_10 : decode cX7_forget 10 = .ok (.iload_n 1, 1) := by decide +kernel
theorem dX7_forget_11 : decode cX7_forget 11 = .ok (.ireturn, 1) := by decide +kernel
theorem dX7_isSeen_0 : decode cX7_isSeen 0 = .ok (.aload_n 0, 1) := by decide +kernel
theorem dX7_isSeen_1 : decode cX7_isSeen 1 = .ok (.iload_n 1, 1) := by decide +kernel
theorem dX7_isSeen_2 : decode cX7_isSeen 2 = .ok (.putfield 55, 3) := by decide +kernel
theorem dX7_isSeen_5 : decode cX7_isSeen 5 = .ok (.iconst 1, 1) := by decide +kernel
theorem dX7_isSeen_6 : decode cX7_isSeen 6 = .ok (.istore_n 2, 1) := by decide +kernel
theorem dX7_isSeen_7 : decode cX7_isSeen 7 = .ok (.iconst 0, 1) := by decide +kernel
theorem dX7_isSeen_8 : decode cX7_isSeen 8 = .ok (.istore_n 3, 1) := by decide +kernel
theorem dX7_isSeen_9 : decode cX7_isSeen 9 = .ok (.iload_n 3, 1) := by decide +kernel
theorem dX7_isSeen_10 : decode cX7_isSeen 10 = .ok (.aload_n 0, 1) := by decide +kernel
theorem dX7_isSeen_11 : decode cX7_isSeen 11 = .ok (.getfield 236, 3) := by decide +kernel
theorem dX7_isSeen_14 : decode cX7_isSeen 14 = .ok (.if_icmp .ge 57, 3) := by decide +kernel
theorem dX7_isSeen_17 : decode cX7_isSeen 17 = .ok (.iload_n 2, 1) := by decide +kernel
theorem dX7_isSeen_18 : decode cX7_isSeen 18 = .ok (.ifCond .eq 53, 3) := by decide +kernel
theorem dX7_isSeen_21 : decode cX7_isSeen 21 = .ok (.aload_n 0, 1) := by decide +kernel
theorem dX7_isSeen_22 : decode cX7_isSeen 22 = .ok (.aload_n 0, 1) := by decide +kernel
theorem dX7_isSeen_23 : decode cX7_isSeen 23 = .ok (.getfield 49, 3) := by decide +kernel
theorem dX7_isSeen_26 : decode cX7_isSeen 26 = .ok (.iconst 2, 1) := by decide +kernel
theorem dX7_isSeen_27 : decode cX7_isSeen 27 = .ok (.iload_n 3, 1) := by decide +kernel
theorem dX7_isSeen_28 : decode cX7_isSeen 28 = .ok (.imul, 1) := by decide +kernel
theorem dX7_isSeen_29 : decode cX7_isSeen 29 = .ok (.iaload, 1) := by decide +kernel
theorem dX7_isSeen_30 : decode cX7_isSeen 30 = .ok (.invokevirtual 212, 3) := by decide +kernel
theorem dX7_isSeen_33 : decode cX7_isSeen 33 = .ok (.aload_n 0, 1) := by decide +kernel
theorem dX7_isSeen_34 : decode cX7_isSeen 34 = .ok (.getfield 46, 3) := by decide +kernel
theorem dX7_isSeen_37 : decode cX7_isSeen 37 = .ok (.aload_n 0, 1) := by decide +kernel
theorem dX7_isSeen_38 : decode cX7_isSeen 38 = .ok (.getfield 49, 3) := by decide +kernel
theorem dX7_isSeen_41 : decode cX7_isSeen 41 = .ok (.iconst 2, 1) := by decide +kernel
theorem dX7_isSeen_42 : decode cX7_isSeen 42 = .ok (.iload_n 3, 1) := by decide +kernel
theorem dX7_isSeen_43 : decode cX7_isSeen 43 = .ok (.imul, 1) := by decide +kernel
theorem dX7_isSeen_44 : decode cX7_isSeen 44 = .ok (.iaload, 1) := by decide +kernel
theorem dX7_isSeen_45 : decode cX7_isSeen 45 = .ok (.iaload, 1) := by decide +kernel
theorem dX7_isSeen_46 : decode cX7_isSeen 46 = .ok (.aload_n 0, 1) := by decide +kernel
theorem dX7_isSeen_47 : decode cX7_isSeen 47 = .ok (.getfield 49, 3) := by decide +kernel
theorem dX7_isSeen_50 : decode cX7_isSeen 50 = .ok (.iconst 2, 1) := by decide +kernel
theorem dX7_isSeen_51 : decode cX7_isSeen 51 = .ok (.iload_n 3, 1) := by decide +kernel
theorem dX7_isSeen_52 : decode cX7_isSeen 52 = .ok (.imul, 1) := by decide +kernel
theorem dX7_isSeen_53 : decode cX7_isSeen 53 = .ok (.iconst 1, 1) := by decide +kernel
theorem dX7_isSeen_54 : decode cX7_isSeen 54 = .ok (.iadd, 1) := by decide +kernel
theorem dX7_isSeen_55 : decode cX7_isSeen 55 = .ok (.iaload, 1) := by decide +kernel
theorem dX7_isSeen_56 : decode cX7_isSeen 56 = .ok (.if_icmp .ne 7, 3) := by decide +kernel
theorem dX7_isSeen_59 : decode cX7_isSeen 59 = .ok (.iconst 1, 1) := by decide +kernel
theorem dX7_isSeen_60 : decode cX7_isSeen 60 = .ok (.goto 4, 3) := by decide +kernel
theorem dX7_isSeen_63 : decode cX7_isSeen 63 = .ok (.iconst 0, 1) := by decide +kernel
theorem dX7_isSeen_64 : decode cX7_isSeen 64 = .ok (.istore_n 2, 1) := by decide +kernel
theorem dX7_isSeen_65 : decode cX7_isSeen 65 = .ok (.iinc 3 1, 3) := by decide +kernel
theorem dX7_isSeen_68 : decode cX7_isSeen 68 = .ok (.goto (-59), 3) := by decide +kernel
theorem dX7_isSeen_71 : decode cX7_isSeen 71 = .ok (.aload_n 0, 1) := by decide +kernel
theorem dX7_isSeen_72 : decode cX7_isSeen 72 = .ok (.sipush 255, 3) := by decide +kernel
theorem dX7_isSeen_75 : decode cX7_isSeen 75 = .ok (.putfield 55, 3) := by decide +kernel
theorem dX7_isSeen_78 : decode cX7_isSeen 78 = .ok (.iload_n 2, 1) := by decide +kernel
theorem dX7_isSeen_79 : decode cX7_isSeen 79 = .ok (.ireturn, 1) := by decide +kernel
theorem dX7_soundOf_0 : decode cX7_soundOf 0 = .ok (.iconst 0, 1) := by decide +kernel
theorem dX7_soundOf_1 : decode cX7_soundOf 1 = .ok (.istore_n 2, 1) := by decide +kernel
theorem dX7_soundOf_2 : decode cX7_soundOf 2 = .ok (.iconst (-1), 1) := by decide +kernel
theorem dX7_soundOf_3 : decode cX7_soundOf 3 = .ok (.istore_n 3, 1) := by decide +kernel
theorem dX7_soundOf_4 : decode cX7_soundOf 4 = .ok (.iconst 0, 1) := by decide +kernel
theorem dX7_soundOf_5 : decode cX7_soundOf 5 = .ok (.istore 4, 2) := by decide +kernel
theorem dX7_soundOf_7 : decode cX7_soundOf 7 = .ok (.iload 4, 2) := by decide +kernel
theorem dX7_soundOf_9 : decode cX7_soundOf 9 = .ok (.iconst 1, 1) := by decide +kernel
theorem dX7_soundOf_10 : decode cX7_soundOf 10 = .ok (.aload_n 0, 1) := by decide +kernel
theorem dX7_soundOf_11 : decode cX7_soundOf 11 = .ok (.getfield 28, 3) := by decide +kernel
theorem dX7_soundOf_14 : decode cX7_soundOf 14 = .ok (.iconst 1, 1) := by decide +kernel
theorem dX7_soundOf_15 : decode cX7_soundOf 15 = .ok (.iaload, 1) := by decide +kernel
theorem dX7_soundOf_16 : decode cX7_soundOf 16 = .ok (.ishl, 1) := by decide +kernel
theorem dX7_soundOf_17 : decode cX7_soundOf 17 = .ok (.if_icmp .ge 32, 3) := by decide +kernel
theorem dX7_soundOf_20 : decode cX7_soundOf 20 = .ok (.aload_n 0, 1) := by decide +kernel
theorem dX7_soundOf_21 : decode cX7_soundOf 21 = .ok (.iload 4, 2) := by decide +kernel
theorem dX7_soundOf_23 : decode cX7_soundOf 23 = .ok (.invokevirtual 239, 3) := by decide +kernel
theorem dX7_soundOf_26 : decode cX7_soundOf 26 = .ok (.ifCond .eq 17, 3) := by decide +kernel
theorem dX7_soundOf_29 : decode cX7_soundOf 29 = .ok (.iload_n 2, 1) := by decide +kernel
theorem dX7_soundOf_30 : decode cX7_soundOf 30 = .ok (.ifCond .ne 8, 3) := by decide +kernel
theorem dX7_soundOf_33 : decode cX7_soundOf 33 = .ok (.iload 4, 2) := by decide +kernel
theorem dX7_soundOf_35 : decode cX7_soundOf 35 = .ok (.goto 4, 3) := by decide +kernel
theorem dX7_soundOf_38 : decode cX7_soundOf 38 = .ok (.iload_n 3, 1) := by decide +kernel
theorem dX7_soundOf_39 : decode cX7_soundOf 39 = .ok (.istore_n 3, 1) := by decide +kernel
theorem dX7_soundOf_40 : decode cX7_soundOf 40 = .ok (.iinc 2 1, 3) := by decide +kernel
theorem dX7_soundOf_43 : decode cX7_soundOf 43 = .ok (.iinc 4 1, 3) := by decide +kernel
theorem dX7_soundOf_46 : decode cX7_soundOf 46 = .ok (.goto (-39), 3) := by decide +kernel
theorem dX7_soundOf_49 : decode cX7_soundOf 49 = .ok (.iload_n 1, 1) := by decide +kernel
theorem dX7_soundOf_50 : decode cX7_soundOf 50 = .ok (.ifCond .ne 7, 3) := by decide +kernel
theorem dX7_soundOf_53 : decode cX7_soundOf 53 = .ok (.iload_n 2, 1) := by decide +kernel
theorem dX7_soundOf_54 : decode cX7_soundOf 54 = .ok (.goto 4, 3) := by decide +kernel
theorem dX7_soundOf_57 : decode cX7_soundOf 57 = .ok (.iload_n 3, 1) := by decide +kernel
theorem dX7_soundOf_58 : decode cX7_soundOf 58 = .ok (.ireturn, 1) := by decide +kernel
theorem dX7_sound_0 : decode cX7_sound 0 = .ok (.aload_n 0, 1) := by decide +kernel
theorem dX7_sound_1 : decode cX7_sound 1 = .ok (.invokevirtual 124, 3) := by decide +kernel
theorem dX7_sound_4 : decode cX7_sound 4 = .ok (.iload_n 1, 1) := by decide +kernel
theorem dX7_sound_5 : decode cX7_sound 5 = .ok (.invokestatic 130, 3) := by decide +kernel
theorem dX7_sound_8 : decode cX7_sound 8 = .ok (.ifCond .eq 11, 3) := by decide +kernel
theorem dX7_sound_11 : decode cX7_sound 11 = .ok (.aload_n 0, 1) := by decide +kernel
theorem dX7_sound_12 : decode cX7_sound 12 = .ok (.iload_n 1, 1) := by decide +kernel
theorem dX7_sound_13 : decode cX7_sound 13 = .ok (.invokevirtual 242, 3) := by decide +kernel
theorem dX7_sound_16 : decode cX7_sound 16 = .ok (.goto 5, 3) := by decide +kernel
theorem dX7_sound_19 : decode cX7_sound 19 = .ok (.bipush (-2), 2) := by decide +kernel
theorem dX7_sound_21 : decode cX7_sound 21 = .ok (.ireturn, 1) := by decide +kernel
theorem dX7_mostAlike_0 : decode cX7_mostAlike 0 = .ok (.iconst 0, 1) := by decide +kernel
theorem dX7_mostAlike_1 : decode cX7_mostAlike 1 = .ok (.istore_n 2, 1) := by decide +kernel
theorem dX7_mostAlike_2 : decode cX7_mostAlike 2 = .ok (.iconst 0, 1) := by decide +kernel
theorem dX7_mostAlike_3 : decode cX7_mostAlike 3 = .ok (.istore_n 3, 1) := by decide +kernel
theorem dX7_mostAlike_4 : decode cX7_mostAlike 4 = .ok (.iload_n 3, 1) := by decide +kernel
theorem dX7_mostAlike_5 : decode cX7_mostAlike 5 = .ok (.iconst 1, 1) := by decide +kernel
theorem dX7_mostAlike_6 : decode cX7_mostAlike 6 = .ok (.aload_n 0, 1) := by decide +kernel
theorem dX7_mostAlike_7 : decode cX7_mostAlike 7 = .ok (.getfield 28, 3) := by decide +kernel
theorem dX7_mostAlike_10 : decode cX7_mostAlike 10 = .ok (.iconst 1, 1) := by decide +kernel
theorem dX7_mostAlike_11 : decode cX7_mostAlike 11 = .ok (.iaload, 1) := by decide +kernel
theorem dX7_mostAlike_12 : decode cX7_mostAlike 12 = .ok (.ishl, 1) := by decide +kernel
theorem dX7_mostAlike_13 : decode cX7_mostAlike 13 = .ok (.if_icmp .ge 49, 3) := by decide +kernel
theorem dX7_mostAlike_16 : decode cX7_mostAlike 16 = .ok (.aload_n 0, 1) := by decide +kernel
theorem dX7_mostAlike_17 : decode cX7_mostAlike 17 = .ok (.iload_n 3, 1) := by decide +kernel
theorem dX7_mostAlike_18 : decode cX7_mostAlike 18 = .ok (.invokevirtual 239, 3) := by decide +kernel
theorem dX7_mostAlike_21 : decode cX7_mostAlike 21 = .ok (.ifCond .eq 35, 3) := by decide +kernel
theorem dX7_mostAlike_24 : decode cX7_mostAlike 24 = .ok (.aload_n 0, 1) := by decide +kernel
theorem dX7_mostAlike_25 : decode cX7_mostAlike 25 = .ok (.iload_n 3, 1) := by decide +kernel
theorem dX7_mostAlike_26 : decode cX7_mostAlike 26 = .ok (.putfield 55, 3) := by decide +kernel
theorem dX7_mostAlike_29 : decode cX7_mostAlike 29 = .ok (.aload_n 0, 1) := by decide +kernel
theorem dX7_mostAlike_30 : decode cX7_mostAlike 30 = .ok (.iload_n 1, 1) := by decide +kernel
theorem dX7_mostAlike_31 : decode cX7_mostAlike 31 = .ok (.invokevirtual 212, 3) := by decide +kernel
theorem dX7_mostAlike_34 : decode cX7_mostAlike 34 = .ok (.aload_n 0, 1) := by decide +kernel
theorem dX7_mostAlike_35 : decode cX7_mostAlike 35 = .ok (.sipush 255, 3) := by decide +kernel
theorem dX7_mostAlike_38 : decode cX7_mostAlike 38 = .ok (.putfield 55, 3) := by decide +kernel
theorem dX7_mostAlike_41 : decode cX7_mostAlike 41 = .ok (.aload_n 0, 1) := by decide +kernel
theorem dX7_mostAlike_42 : decode cX7_mostAlike 42 = .ok (.getfield 52, 3) := by decide +kernel
theorem dX7_mostAlike_45 : decode cX7_mostAlike 45 = .ok (.iload_n 2, 1) := by decide +kernel
theorem dX7_mostAlike_46 : decode cX7_mostAlike 46 = .ok (.aload_n 0, 1) := by decide +kernel
theorem dX7_mostAlike_47 : decode cX7_mostAlike 47 = .ok (.getfield 46, 3) := by decide +kernel
theorem dX7_mostAlike_50 : decode cX7_mostAlike 50 = .ok (.iload_n 1, 1) := by decide +kernel
theorem dX7_mostAlike_51 : decode cX7_mostAlike 51 = .ok (.iaload, 1) := by decide +kernel
theorem dX7_mostAlike_52 : decode cX7_mostAlike 52 = .ok (.iastore, 1) := by decide +kernel
theorem dX7_mostAlike_53 : decode cX7_mostAlike 53 = .ok (.iinc 2 1, 3) := by decide +kernel
theorem dX7_mostAlike_56 : decode cX7_mostAlike 56 = .ok (.iinc 3 1, 3) := by decide +kernel
theorem dX7_mostAlike_59 : decode cX7_mostAlike 59 = .ok (.goto (-55), 3) := by decide +kernel
theorem dX7_mostAlike_62 : decode cX7_mostAlike 62 = .ok (.iconst 0, 1) := by decide +kernel
theorem dX7_mostAlike_63 : decode cX7_mostAlike 63 = .ok (.istore_n 3, 1) := by decide +kernel
theorem dX7_mostAlike_64 : decode cX7_mostAlike 64 = .ok (.iconst 0, 1) := by decide +kernel
theorem dX7_mostAlike_65 : decode cX7_mostAlike 65 = .ok (.istore 4, 2) := by decide +kernel
theorem dX7_mostAlike_67 : decode cX7_mostAlike 67 = .ok (.iload 4, 2) := by decide +kernel
theorem dX7_mostAlike_69 : decode cX7_mostAlike 69 = .ok (.iload_n 2, 1) := by decide +kernel
theorem dX7_mostAlike_70 : decode cX7_mostAlike 70 = .ok (.if_icmp .ge 67, 3) := by decide +kernel
theorem dX7_mostAlike_73 : decode cX7_mostAlike 73 = .ok (.iconst 0, 1) := by decide +kernel
theorem dX7_mostAlike_74 : decode cX7_mostAlike 74 = .ok (.istore 5, 2) := by decide +kernel
theorem dX7_mostAlike_76 : decode cX7_mostAlike 76 = .ok (.iconst 0, 1) := by decide +kernel
theorem dX7_mostAlike_77 : decode cX7_mostAlike 77 = .ok (.istore 6, 2) := by decide +kernel
theorem dX7_mostAlike_79 : decode cX7_mostAlike 79 = .ok (.iload 6, 2) := by decide +kernel
theorem dX7_mostAlike_81 : decode cX7_mostAlike 81 = .ok (.iload_n 2, 1) := by decide +kernel
theorem dX7_mostAlike_82 : decode cX7_mostAlike 82 = .ok (.if_icmp .ge 36, 3) := by decide +kernel
theorem dX7_mostAlike_85 : decode cX7_mostAlike 85 = .ok (.iload 5, 2) := by decide +kernel
theorem dX7_mostAlike_87 : decode cX7_mostAlike 87 = .ok (.aload_n 0, 1) := by decide +kernel
theorem dX7_mostAlike_88 : decode cX7_mostAlike 88 = .ok (.getfield 52, 3) := by decide +kernel
theorem dX7_mostAlike_91 : decode cX7_mostAlike 91 = .ok (.iload 4, 2) := by decide +kernel
theorem dX7_mostAlike_93 : decode cX7_mostAlike 93 = .ok (.iaload, 1) := by decide +kernel
theorem dX7_mostAlike_94 : decode cX7_mostAlike 94 = .ok (.aload_n 0, 1) := by decide +kernel
theorem dX7_mostAlike_95 : decode cX7_mostAlike 95 = .ok (.getfield 52, 3) := by decide +kernel
theorem dX7_mostAlike_98 : decode cX7_mostAlike 98 = .ok (.iload 6, 2) := by decide +kernel
theorem dX7_mostAlike_100 : decode cX7_mostAlike 100 = .ok (.iaload, 1) := by decide +kernel
theorem dX7_mostAlike_101 : decode cX7_mostAlike 101 = .ok (.if_icmp .ne 7, 3) := by decide +kernel
theorem dX7_mostAlike_104 : decode cX7_mostAlike 104 = .ok (.iconst 1, 1) := by decide +kernel
theorem dX7_mostAlike_105 : decode cX7_mostAlike 105 = .ok (.goto 4, 3) := by decide +kernel
theorem dX7_mostAlike_108 : decode cX7_mostAlike 108 = .ok (.iconst 0, 1) := by decide +kernel
theorem dX7_mostAlike_109 : decode cX7_mostAlike 109 = .ok (.iadd, 1) := by decide +kernel
theorem dX7_mostAlike_110 : decode cX7_mostAlike 110 = .ok (.istore 5, 2) := by decide +kernel
theorem dX7_mostAlike_112 : decode cX7_mostAlike 112 = .ok (.iinc 6 1, 3) := by decide +kernel
theorem dX7_mostAlike_115 : decode cX7_mostAlike 115 = .ok (.goto (-36), 3) := by decide +kernel
theorem dX7_mostAlike_118 : decode cX7_mostAlike 118 = .ok (.iload 5, 2) := by decide +kernel
theorem dX7_mostAlike_120 : decode cX7_mostAlike 120 = .ok (.iload_n 3, 1) := by decide +kernel
theorem dX7_mostAlike_121 : decode cX7_mostAlike 121 = .ok (.if_icmp .le 8, 3) := by decide +kernel
theorem dX7_mostAlike_124 : decode cX7_mostAlike 124 = .ok (.iload 5, 2) := by decide +kernel
theorem dX7_mostAlike_126 : decode cX7_mostAlike 126 = .ok (.goto 4, 3) := by decide +kernel
theorem dX7_mostAlike_129 : decode cX7_mostAlike 129 = .ok (.iload_n 3, 1) := by decide +kernel
theorem dX7_mostAlike_130 : decode cX7_mostAlike 130 = .ok (.istore_n 3, 1) := by decide +kernel
theorem dX7_mostAlike_131 : decode cX7_mostAlike 131 = .ok (.iinc 4 1, 3) := by decide +kernel
theorem dX7_mostAlike_134 : decode cX7_mostAlike 134 = .ok (.goto (-67), 3) := by decide +kernel
theorem dX7_mostAlike_137 : decode cX7_mostAlike 137 = .ok (.iload_n 3, 1) := by decide +kernel
theorem dX7_mostAlike_138 : decode cX7_mostAlike 138 = .ok (.ireturn, 1) := by decide +kernel
theorem dX7_pressNow_0 : decode cX7_pressNow 0 = .ok (.iconst (-1), 1) := by decide +kernel
theorem dX7_pressNow_1 : decode cX7_pressNow 1 = .ok (.istore_n 1, 1) := by decide +kernel
theorem dX7_pressNow_2 : decode cX7_pressNow 2 = .ok (.iconst 0, 1) := by decide +kernel
theorem dX7_pressNow_3 : decode cX7_pressNow 3 = .ok (.istore_n 2, 1) := by decide +kernel
theorem dX7_pressNow_4 : decode cX7_pressNow 4 = .ok (.iconst 0, 1) := by decide +kernel
theorem dX7_pressNow_5 : decode cX7_pressNow 5 = .ok (.istore_n 3, 1) := by decide +kernel
theorem dX7_pressNow_6 : decode cX7_pressNow 6 = .ok (.iload_n 3, 1) := by decide +kernel
theorem dX7_pressNow_7 : decode cX7_pressNow 7 = .ok (.aload_n 0, 1) := by decide +kernel
theorem dX7_pressNow_8 : decode cX7_pressNow 8 = .ok (.getfield 28, 3) := by decide +kernel
theorem dX7_pressNow_11 : decode cX7_pressNow 11 = .ok (.iconst 0, 1) := by decide +kernel
theorem dX7_pressNow_12 : decode cX7_pressNow 12 = .ok (.iaload, 1) := by decide +kernel
theorem dX7_pressNow_13 : decode cX7_pressNow 13 = .ok (.if_icmp .ge 57, 3) := by decide +kernel
theorem dX7_pressNow_16 : decode cX7_pressNow 16 = .ok (.aload_n 0, 1) := by decide +kernel
theorem dX7_pressNow_17 : decode cX7_pressNow 17 = .ok (.iload_n 3, 1) := by decide +kernel
theorem dX7_pressNow_18 : decode cX7_pressNow 18 = .ok (.invokevirtual 245, 3) := by decide +kernel
theorem dX7_pressNow_21 : decode cX7_pressNow 21 = .ok (.istore 4, 2) := by decide +kernel
theorem dX7_pressNow_23 : decode cX7_pressNow 23 = .ok (.iload_n 1, 1) := by decide +kernel
theorem dX7_pressNow_24 : decode cX7_pressNow 24 = .ok (.iconst (-1), 1) := by decide +kernel
theorem dX7_pressNow_25 : decode cX7_pressNow 25 = .ok (.if_icmp .eq 9, 3) := by decide +kernel
theorem dX7_pressNow_28 : decode cX7_pressNow 28 = .ok (.iload 4, 2) := by decide +kernel
theorem dX7_pressNow_30 : decode cX7_pressNow 30 = .ok (.iload_n 2, 1) := by decide +kernel
theorem dX7_pressNow_31 : decode cX7_pressNow 31 = .ok (.if_icmp .ge 7, 3) := by decide +kernel
theorem dX7_pressNow_34 : decode cX7_pressNow 34 = .ok (.iconst 1, 1) := by decide +kernel
theorem dX7_pressNow_35 : decode cX7_pressNow 35 = .ok (.goto 4, 3) := by decide +kernel
theorem dX7_pressNow_38 : decode cX7_pressNow 38 = .ok (.iconst 0, 1) := by decide +kernel
theorem dX7_pressNow_39 : decode cX7_pressNow 39 = .ok (.istore 5, 2) := by decide +kernel
theorem dX7_pressNow_41 : decode cX7_pressNow 41 = .ok (.iload 5, 2) := by decide +kernel
theorem dX7_pressNow_43 : decode cX7_pressNow 43 = .ok (.ifCond .eq 7, 3) := by decide +kernel
theorem dX7_pressNow_46 : decode cX7_pressNow 46 = .ok (.iload_n 3, 1) := by decide +kernel
theorem dX7_pressNow_47 : decode cX7_pressNow 47 = .ok (.goto 4, 3) := by decide +kernel
theorem dX7_pressNow_50 : decode cX7_pressNow 50 = .ok (.iload_n 1, 1) := by decide +kernel
theorem dX7_pressNow_51 : decode cX7_pressNow 51 = .ok (.istore_n 1, 1) := by decide +kernel
theorem dX7_pressNow_52 : decode cX7_pressNow 52 = .ok (.iload 5, 2) := by decide +kernel
theorem dX7_pressNow_54 : decode cX7_pressNow 54 = .ok (.ifCond .eq 8, 3) := by decide +kernel
theorem dX7_pressNow_57 : decode cX7_pressNow 57 = .ok (.iload 4, 2) := by decide +kernel
theorem dX7_pressNow_59 : decode cX7_pressNow 59 = .ok (.goto 4, 3) := by decide +kernel
theorem dX7_pressNow_62 : decode cX7_pressNow 62 = .ok (.iload_n 2, 1) := by decide +kernel
theorem dX7_pressNow_63 : decode cX7_pressNow 63 = .ok (.istore_n 2, 1) := by decide +kernel
theorem dX7_pressNow_64 : decode cX7_pressNow 64 = .ok (.iinc 3 1, 3) := by decide +kernel
theorem dX7_pressNow_67 : decode cX7_pressNow 67 = .ok (.goto (-61), 3) := by decide +kernel
theorem dX7_pressNow_70 : decode cX7_pressNow 70 = .ok (.iload_n 1, 1) := by decide +kernel
theorem dX7_pressNow_71 : decode cX7_pressNow 71 = .ok (.ireturn, 1) := by decide +kernel
theorem dX7_press_0 : decode cX7_press 0 = .ok (.aload_n 0, 1) := by decide +kernel
theorem dX7_press_1 : decode cX7_press 1 = .ok (.invokevirtual 124, 3) := by decide +kernel
theorem dX7_press_4 : decode cX7_press 4 = .ok (.aload_n 0, 1) := by decide +kernel
theorem dX7_press_5 : decode cX7_press 5 = .ok (.invokevirtual 248, 3) := by decide +kernel
theorem dX7_press_8 : decode cX7_press 8 = .ok (.ireturn, 1) := by decide +kernel
theorem dX7_fairOf_0 : decode cX7_fairOf 0 = .ok (.lconst 0, 1) := by decide +kernel
theorem dX7_fairOf_1 : decode cX7_fairOf 1 = .ok (.lstore_n 3, 1) := by decide +kernel
theorem dX7_fairOf_2 : decode cX7_fairOf 2 = .ok (.iconst 0, 1) := by decide +kernel
theorem dX7_fairOf_3 : decode cX7_fairOf 3 = .ok (.istore 5, 2) := by decide +kernel
theorem dX7_fairOf_5 : decode cX7_fairOf 5 = .ok (.iload 5, 2) := by decide +kernel
theorem dX7_fairOf_7 : decode cX7_fairOf 7 = .ok (.aload_n 0, 1) := by decide +kernel
theorem dX7_fairOf_8 : decode cX7_fairOf 8 = .ok (.getfield 28, 3) := by decide +kernel
theorem dX7_fairOf_11 : decode cX7_fairOf 11 = .ok (.iconst 0, 1) := by decide +kernel
theorem dX7_fairOf_12 : decode cX7_fairOf 12 = .ok (.iaload, 1) := by decide +kernel
theorem dX7_fairOf_13 : decode cX7_fairOf 13 = .ok (.if_icmp .ge 33, 3) := by decide +kernel
theorem dX7_fairOf_16 : decode cX7_fairOf 16 = .ok (.lload_n 3, 1) := by decide +kernel
theorem dX7_fairOf_17 : decode cX7_fairOf 17 = .ok (.aload_n 0, 1) := by decide +kernel
theorem dX7_fairOf_18 : decode cX7_fairOf 18 = .ok (.getfield 31, 3) := by decide +kernel
theorem dX7_fairOf_21 : decode cX7_fairOf 21 = .ok (.iconst 2, 1) := by decide +kernel
theorem dX7_fairOf_22 : decode cX7_fairOf 22 = .ok (.iload 5, 2) := by decide +kernel
theorem dX7_fairOf_24 : decode cX7_fairOf 24 = .ok (.imul, 1) := by decide +kernel
theorem dX7_fairOf_25 : decode cX7_fairOf 25 = .ok (.iconst 1, 1) := by decide +kernel
theorem dX7_fairOf_26 : decode cX7_fairOf 26 = .ok (.iadd, 1) := by decide +kernel
theorem dX7_fairOf_27 : decode cX7_fairOf 27 = .ok (.iaload, 1) := by decide +kernel
theorem dX7_fairOf_28 : decode cX7_fairOf 28 = .ok (.i2l, 1) := by decide +kernel
theorem dX7_fairOf_29 : decode cX7_fairOf 29 = .ok (.aload_n 0, 1) := by decide +kernel
theorem dX7_fairOf_30 : decode cX7_fairOf 30 = .ok (.iload 5, 2) := by decide +kernel
theorem dX7_fairOf_32 : decode cX7_fairOf 32 = .ok (.iload_n 1, 1) := by decide +kernel
theorem dX7_fairOf_33 : decode cX7_fairOf 33 = .ok (.invokevirtual 161, 3) := by decide +kernel
theorem dX7_fairOf_36 : decode cX7_fairOf 36 = .ok (.i2l, 1) := by decide +kernel
theorem dX7_fairOf_37 : decode cX7_fairOf 37 = .ok (.lmul, 1) := by decide +kernel
theorem dX7_fairOf_38 : decode cX7_fairOf 38 = .ok (.ladd, 1) := by decide +kernel
theorem dX7_fairOf_39 : decode cX7_fairOf 39 = .ok (.lstore_n 3, 1) := by decide +kernel
theorem dX7_fairOf_40 : decode cX7_fairOf 40 = .ok (.iinc 5 1, 3) := by decide +kernel
theorem dX7_fairOf_43 : decode cX7_fairOf 43 = .ok (.goto (-38), 3) := by decide +kernel
theorem dX7_fairOf_46 : decode cX7_fairOf 46 = .ok (.lload_n 3, 1) := by decide +kernel
theorem dX7_fairOf_47 : decode cX7_fairOf 47 = .ok (.ldc2_w 251, 3) := by decide +kernel
theorem dX7_fairOf_50 : decode cX7_fairOf 50 = .ok (.iload_n 2, 1) := by decide +kernel
theorem dX7_fairOf_51 : decode cX7_fairOf 51 = .ok (.invokestatic 253, 3) := by decide +kernel
theorem dX7_fairOf_54 : decode cX7_fairOf 54 = .ok (.lreturn, 1) := by decide +kernel
theorem dX7_fair_0 : decode cX7_fair 0 = .ok (.aload_n 0, 1) := by decide +kernel
theorem dX7_fair_1 : decode cX7_fair 1 = .ok (.invokevirtual 124, 3) := by decide +kernel
theorem dX7_fair_4 : decode cX7_fair 4 = .ok (.aload_n 0, 1) := by decide +kernel
theorem dX7_fair_5 : decode cX7_fair 5 = .ok (.iload_n 1, 1) := by decide +kernel
theorem dX7_fair_6 : decode cX7_fair 6 = .ok (.invokevirtual 133, 3) := by decide +kernel
theorem dX7_fair_9 : decode cX7_fair 9 = .ok (.ifCond .eq 19, 3) := by decide +kernel
theorem dX7_fair_12 : decode cX7_fair 12 = .ok (.iload_n 2, 1) := by decide +kernel
theorem dX7_fair_13 : decode cX7_fair 13 = .ok (.invokestatic 130, 3) := by decide +kernel
theorem dX7_fair_16 : decode cX7_fair 16 = .ok (.ifCond .eq 12, 3) := by decide +kernel
theorem dX7_fair_19 : decode cX7_fair 19 = .ok (.aload_n 0, 1) := by decide +kernel
theorem dX7_fair_20 : decode cX7_fair 20 = .ok (.iload_n 1, 1) := by decide +kernel
theorem dX7_fair_21 : decode cX7_fair 21 = .ok (.iload_n 2, 1) := by decide +kernel
theorem dX7_fair_22 : decode cX7_fair 22 = .ok (.invokevirtual 257, 3) := by decide +kernel
theorem dX7_fair_25 : decode cX7_fair 25 = .ok (.goto 8, 3) := by decide +kernel
theorem dX7_fair_28 : decode cX7_fair 28 = .ok (.bipush (-2), 2) := by decide +kernel
theorem dX7_fair_30 : decode cX7_fair 30 = .ok (.invokestatic 261, 3) := by decide +kernel
theorem dX7_fair_33 : decode cX7_fair 33 = .ok (.lreturn, 1) := by decide +kernel
theorem dX7_stormOf_0 : decode cX7_stormOf 0 = .ok (.lconst 0, 1) := by decide +kernel
theorem dX7_stormOf_1 : decode cX7_stormOf 1 = .ok (.lstore 4, 2) := by decide +kernel
theorem dX7_stormOf_3 : decode cX7_stormOf 3 = .ok (.lconst 1, 1) := by decide +kernel
theorem dX7_stormOf_4 : decode cX7_stormOf 4 = .ok (.lstore 6, 2) := by decide +kernel
theorem dX7_stormOf_6 : decode cX7_stormOf 6 = .ok (.iconst 0, 1) := by decide +kernel
theorem dX7_stormOf_7 : decode cX7_stormOf 7 = .ok (.istore 8, 2) := by decide +kernel
theorem dX7_stormOf_9 : decode cX7_stormOf 9 = .ok (.iload 8, 2) := by decide +kernel
theorem dX7_stormOf_11 : decode cX7_stormOf 11 = .ok (.aload_n 0, 1) := by decide +kernel
theorem dX7_stormOf_12 : decode cX7_stormOf 12 = .ok (.getfield 28, 3) := by decide +kernel
theorem dX7_stormOf_15 : decode cX7_stormOf 15 = .ok (.iconst 0, 1) := by decide +kernel
theorem dX7_stormOf_16 : decode cX7_stormOf 16 = .ok (.iaload, 1) := by decide +kernel
theorem dX7_stormOf_17 : decode cX7_stormOf 17 = .ok (.if_icmp .ge 17, 3) := by decide +kernel
theorem dX7_stormOf_20 : decode cX7_stormOf 20 = .ok (.lload 6, 2) := by decide +kernel
theorem dX7_stormOf_22 : decode cX7_stormOf 22 = .ok (.ldc2_w 251, 3) := by decide +kernel
theorem dX7_stormOf_25 : decode cX7_stormOf 25 = .ok (.lmul, 1) := by decide +kernel
theorem dX7_stormOf_26 : decode cX7_stormOf 26 = .ok (.lstore 6, 2) := by decide +kernel
theorem dX7_stormOf_28 : decode cX7_stormOf 28 = .ok (.iinc 8 1, 3) := by decide +kernel
theorem dX7_stormOf_31 : decode cX7_stormOf 31 = .ok (.goto (-22), 3) := by decide +kernel
theorem dX7_stormOf_34 : decode cX7_stormOf 34 = .ok (.iconst 0, 1) := by decide +kernel
theorem dX7_stormOf_35 : decode cX7_stormOf 35 = .ok (.istore 8, 2) := by decide +kernel
theorem dX7_stormOf_37 : decode cX7_stormOf 37 = .ok (.iload 8, 2) := by decide +kernel
theorem dX7_stormOf_39 : decode cX7_stormOf 39 = .ok (.iconst 1, 1) := by decide +kernel
theorem dX7_stormOf_40 : decode cX7_stormOf 40 = .ok (.aload_n 0, 1) := by decide +kernel
theorem dX7_stormOf_41 : decode cX7_stormOf 41 = .ok (.getfield 28, 3) := by decide +kernel
theorem dX7_stormOf_44 : decode cX7_stormOf 44 = .ok (.iconst 0, 1) := by decide +kernel
theorem dX7_stormOf_45 : decode cX7_stormOf 45 = .ok (.iaload, 1) := by decide +kernel
theorem dX7_stormOf_46 : decode cX7_stormOf 46 = .ok (.ishl, 1) := by decide +kernel
theorem dX7_stormOf_47 : decode cX7_stormOf 47 = .ok (.if_icmp .ge 119, 3) := by decide +kernel
theorem dX7_stormOf_50 : decode cX7_stormOf 50 = .ok (.lconst 1, 1) := by decide +kernel
theorem dX7_stormOf_51 : decode cX7_stormOf 51 = .ok (.lstore 9, 2) := by decide +kernel
theorem dX7_stormOf_53 : decode cX7_stormOf 53 = .ok (.aload_n 0, 1) := by decide +kernel
theorem dX7_stormOf_54 : decode cX7_stormOf 54 = .ok (.invokevirtual 189, 3) := by decide +kernel
theorem dX7_stormOf_57 : decode cX7_stormOf 57 = .ok (.iconst 0, 1) := by decide +kernel
theorem dX7_stormOf_58 : decode cX7_stormOf 58 = .ok (.istore 11, 2) := by decide +kernel
theorem dX7_stormOf_60 : decode cX7_stormOf 60 = .ok (.iload 11, 2) := by decide +kernel
theorem dX7_stormOf_62 : decode cX7_stormOf 62 = .ok (.aload_n 0, 1) := by decide +kernel
theorem dX7_stormOf_63 : decode cX7_stormOf 63 = .ok (.getfield 28, 3) := by decide +kernel
theorem dX7_stormOf_66 : decode cX7_stormOf 66 = .ok (.iconst 0, 1) := by decide +kernel
theorem dX7_stormOf_67 : decode cX7_stormOf 67 = .ok (.iaload, 1) := by decide +kernel
theorem dX7_stormOf_68 : decode cX7_stormOf 68 = .ok (.if_icmp .ge 71, 3) := by decide +kernel
theorem dX7_stormOf_71 : decode cX7_stormOf 71 = .ok (.lload 9, 2) := by decide +kernel
theorem dX7_stormOf_73 : decode cX7_stormOf 73 = .ok (.iload 8, 2) := by decide +kernel
theorem dX7_stormOf_75 : decode cX7_stormOf 75 = .ok (.iload 11, 2) := by decide +kernel
theorem dX7_stormOf_77 : decode cX7_stormOf 77 = .ok (.invokestatic 139, 3) := by decide +kernel
theorem dX7_stormOf_80 : decode cX7_stormOf 80 = .ok (.ifCond .eq 18, 3) := by decide +kernel
theorem dX7_stormOf_83 : decode cX7_stormOf 83 = .ok (.aload_n 0, 1) := by decide +kernel
theorem dX7_stormOf_84 : decode cX7_stormOf 84 = .ok (.getfield 31, 3) := by decide +kernel
theorem dX7_stormOf_87 : decode cX7_stormOf 87 = .ok (.iconst 2, 1) := by decide +kernel
theorem dX7_stormOf_88 : decode cX7_stormOf 88 = .ok (.iload 11, 2) := by decide +kernel
theorem dX7_stormOf_90 : decode cX7_stormOf 90 = .ok (.imul, 1) := by decide +kernel
theorem dX7_stormOf_91 : decode cX7_stormOf 91 = .ok (.iconst 1, 1) := by decide +kernel
theorem dX7_stormOf_92 : decode cX7_stormOf 92 = .ok (.iadd, 1) := by decide +kernel
theorem dX7_stormOf_93 : decode cX7_stormOf 93 = .ok (.iaload, 1) := by decide +kernel
theorem dX7_stormOf_94 : decode cX7_stormOf 94 = .ok (.i2l, 1) := by decide +kernel
theorem dX7_stormOf_95 : decode cX7_stormOf 95 = .ok (.goto 18, 3) := by decide +kernel
theorem dX7_stormOf_98 : decode cX7_stormOf 98 = .ok (.bipush 16, 2) := by decide +kernel
theorem dX7_stormOf_100 : decode cX7_stormOf 100 = .ok (.aload_n 0, 1) := by decide +kernel
theorem dX7_stormOf_101 : decode cX7_stormOf 101 = .ok (.getfield 31, 3) := by decide +kernel
theorem dX7_stormOf_104 : decode cX7_stormOf 104 = .ok (.iconst 2, 1) := by decide +kernel
theorem dX7_stormOf_105 : decode cX7_stormOf 105 = .ok (.iload 11, 2) := by decide +kernel
theorem dX7_stormOf_107 : decode cX7_stormOf 107 = .ok (.imul, 1) := by decide +kernel
theorem dX7_stormOf_108 : decode cX7_stormOf 108 = .ok (.iconst 1, 1) := by decide +kernel
theorem dX7_stormOf_109 : decode cX7_stormOf 109 = .ok (.iadd, 1) := by decide +kernel
theorem dX7_stormOf_110 : decode cX7_stormOf 110 = .ok (.iaload, 1) := by decide +kernel
theorem dX7_stormOf_111 : decode cX7_stormOf 111 = .ok (.isub, 1) := by decide +kernel
theorem dX7_stormOf_112 : decode cX7_stormOf 112 = .ok (.i2l, 1) := by decide +kernel
theorem dX7_stormOf_113 : decode cX7_stormOf 113 = .ok (.lmul, 1) := by decide +kernel
theorem dX7_stormOf_114 : decode cX7_stormOf 114 = .ok (.lstore 9, 2) := by decide +kernel
theorem dX7_stormOf_116 : decode cX7_stormOf 116 = .ok (.iload 8, 2) := by decide +kernel
theorem dX7_stormOf_118 : decode cX7_stormOf 118 = .ok (.iload 11, 2) := by decide +kernel
theorem dX7_stormOf_120 : decode cX7_stormOf 120 = .ok (.invokestatic 139, 3) := by decide +kernel
theorem dX7_stormOf_123 : decode cX7_stormOf 123 = .ok (.ifCond .eq 10, 3) := by decide +kernel
theorem dX7_stormOf_126 : decode cX7_stormOf 126 = .ok (.aload_n 0, 1) := by decide +kernel
theorem dX7_stormOf_127 : decode cX7_stormOf 127 = .ok (.iconst 0, 1) := by decide +kernel
theorem dX7_stormOf_128 : decode cX7_stormOf 128 = .ok (.iload 11, 2) := by decide +kernel
theorem dX7_stormOf_130 : decode cX7_stormOf 130 = .ok (.invokevirtual 192, 3) := by decide +kernel
theorem dX7_stormOf_133 : decode cX7_stormOf 133 = .ok (.iinc 11 1, 3) := by decide +kernel
theorem dX7_stormOf_136 : decode cX7_stormOf 136 = .ok (.goto (-76), 3) := by decide +kernel
theorem dX7_stormOf_139 : decode cX7_stormOf 139 = .ok (.lload 4, 2) := by decide +kernel
theorem dX7_stormOf_141 : decode cX7_stormOf 141 = .ok (.aload_n 0, 1) := by decide +kernel
theorem dX7_stormOf_142 : decode cX7_stormOf 142 = .ok (.getfield 43, 3) := by decide +kernel
theorem dX7_stormOf_145 : decode cX7_stormOf 145 = .ok (.iload_n 1, 1) := by decide +kernel
theorem dX7_stormOf_146 : decode cX7_stormOf 146 = .ok (.iaload, 1) := by decide +kernel
theorem dX7_stormOf_147 : decode cX7_stormOf 147 = .ok (.iload_n 2, 1) := by decide +kernel
theorem dX7_stormOf_148 : decode cX7_stormOf 148 = .ok (.if_icmp .lt 8, 3) := by decide +kernel
theorem dX7_stormOf_151 : decode cX7_stormOf 151 = .ok (.lload 9, 2) := by decide +kernel
theorem dX7_stormOf_153 : decode cX7_stormOf 153 = .ok (.goto 4, 3) := by decide +kernel
theorem dX7_stormOf_156 : decode cX7_stormOf 156 = .ok (.lconst 0, 1) := by decide +kernel
theorem dX7_stormOf_157 : decode cX7_stormOf 157 = .ok (.ladd, 1) := by decide +kernel
theorem dX7_stormOf_158 : decode cX7_stormOf 158 = .ok (.lstore 4, 2) := by decide +kernel
theorem dX7_stormOf_160 : decode cX7_stormOf 160 = .ok (.iinc 8 1, 3) := by decide +kernel
theorem dX7_stormOf_163 : decode cX7_stormOf 163 = .ok (.goto (-126), 3) := by decide +kernel
theorem dX7_stormOf_166 : decode cX7_stormOf 166 = .ok (.lload 4, 2) := by decide +kernel
theorem dX7_stormOf_168 : decode cX7_stormOf 168 = .ok (.lload 6, 2) := by decide +kernel
theorem dX7_stormOf_170 : decode cX7_stormOf 170 = .ok (.iload_n 3, 1) := by decide +kernel
theorem dX7_stormOf_171 : decode cX7_stormOf 171 = .ok (.invokestatic 253, 3) := by decide +kernel
theorem dX7_stormOf_174 : decode cX7_stormOf 174 = .ok (.lreturn, 1) := by decide +kernel
theorem dX7_storm_0 : decode cX7_storm 0 = .ok (.aload_n 0, 1) := by decide +kernel
theorem dX7_storm_1 : decode cX7_storm 1 = .ok (.invokevirtual 124, 3) := by decide +kernel
theorem dX7_storm_4 : decode cX7_storm 4 = .ok (.aload_n 0, 1) := by decide +kernel
theorem dX7_storm_5 : decode cX7_storm 5 = .ok (.iload_n 1, 1) := by decide +kernel
theorem dX7_storm_6 : decode cX7_storm 6 = .ok (.invokevirtual 133, 3) := by decide +kernel
theorem dX7_storm_9 : decode cX7_storm 9 = .ok (.ifCond .eq 32, 3) := by decide +kernel
theorem dX7_storm_12 : decode cX7_storm 12 = .ok (.iload_n 2, 1) := by decide +kernel
theorem dX7_storm_13 : decode cX7_storm 13 = .ok (.i2l, 1) := by decide +kernel
theorem dX7_storm_14 : decode cX7_storm 14 = .ok (.lconst 0, 1) := by decide +kernel
theorem dX7_storm_15 : decode cX7_storm 15 = .ok (.ldc2_w 265, 3) := by decide +kernel
theorem dX7_storm_18 : decode cX7_storm 18 = .ok (.invokestatic 61, 3) := by decide +kernel
theorem dX7_storm_21 : decode cX7_storm 21 = .ok (.ifCond .eq 20, 3) := by decide +kernel
theorem dX7_storm_24 : decode cX7_storm 24 = .ok (.iload_n 3, 1) := by decide +kernel
theorem dX7_storm_25 : decode cX7_storm 25 = .ok (.invokestatic 130, 3) := by decide +kernel
theorem dX7_storm_28 : decode cX7_storm 28 = .ok (.ifCond .eq 13, 3) := by decide +kernel
theorem dX7_storm_31 : decode cX7_storm 31 = .ok (.aload_n 0, 1) := by decide +kernel
theorem dX7_storm_32 : decode cX7_storm 32 = .ok (.iload_n 1, 1) := by decide +kernel
theorem dX7_storm_33 : decode cX7_storm 33 = .ok (.iload_n 2, 1) := by decide +kernel
theorem dX7_storm_34 : decode cX7_storm 34 = .ok (.iload_n 3, 1) := by decide +kernel
theorem dX7_storm_35 : decode cX7_storm 35 = .ok (.invokevirtual 267, 3) := by decide +kernel
theorem dX7_storm_38 : decode cX7_storm 38 = .ok (.goto 8, 3) := by decide +kernel
theorem dX7_storm_41 : decode cX7_storm 41 = .ok (.bipush (-2), 2) := by decide +kernel
theorem dX7_storm_43 : decode cX7_storm 43 = .ok (.invokestatic 261, 3) := by decide +kernel
theorem dX7_storm_46 : decode cX7_storm 46 = .ok (.lreturn, 1) := by decide +kernel
theorem dX7_lot_0 : decode cX7_lot 0 = .ok (.aload_n 0, 1) := by decide +kernel
theorem dX7_lot_1 : decode cX7_lot 1 = .ok (.ldc_w 271, 3) := by decide +kernel
theorem dX7_lot_4 : decode cX7_lot 4 = .ok (.aload_n 0, 1) := by decide +kernel
theorem dX7_lot_5 : decode cX7_lot 5 = .ok (.getfield 272, 3) := by decide +kernel
theorem dX7_lot_8 : decode cX7_lot 8 = .ok (.imul, 1) := by decide +kernel
theorem dX7_lot_9 : decode cX7_lot 9 = .ok (.sipush 12345, 3) := by decide +kernel
theorem dX7_lot_12 : decode cX7_lot 12 = .ok (.iadd, 1) := by decide +kernel
theorem dX7_lot_13 : decode cX7_lot 13 = .ok (.putfield 272, 3) := by decide +kernel
theorem dX7_lot_16 : decode cX7_lot 16 = .ok (.aload_n 0, 1) := by decide +kernel
theorem dX7_lot_17 : decode cX7_lot 17 = .ok (.getfield 272, 3) := by decide +kernel
theorem dX7_lot_20 : decode cX7_lot 20 = .ok (.bipush 16, 2) := by decide +kernel
theorem dX7_lot_22 : decode cX7_lot 22 = .ok (.iushr, 1) := by decide +kernel
theorem dX7_lot_23 : decode cX7_lot 23 = .ok (.iload_n 1, 1) := by decide +kernel
theorem dX7_lot_24 : decode cX7_lot 24 = .ok (.irem, 1) := by decide +kernel
theorem dX7_lot_25 : decode cX7_lot 25 = .ok (.ireturn, 1) := by decide +kernel
theorem dX7_yearsOf_0 : decode cX7_yearsOf 0 = .ok (.aload_n 0, 1) := by decide +kernel
theorem dX7_yearsOf_1 : decode cX7_yearsOf 1 = .ok (.iload_n 1, 1) := by decide +kernel
theorem dX7_yearsOf_2 : decode cX7_yearsOf 2 = .ok (.putfield 272, 3) := by decide +kernel
theorem dX7_yearsOf_5 : decode cX7_yearsOf 5 = .ok (.aload_n 0, 1) := by decide +kernel
theorem dX7_yearsOf_6 : decode cX7_yearsOf 6 = .ok (.invokevirtual 189, 3) := by decide +kernel
theorem dX7_yearsOf_9 : decode cX7_yearsOf 9 = .ok (.iconst 0, 1) := by decide +kernel
theorem dX7_yearsOf_10 : decode cX7_yearsOf 10 = .ok (.istore 5, 2) := by decide +kernel
theorem dX7_yearsOf_12 : decode cX7_yearsOf 12 = .ok (.iload 5, 2) := by decide +kernel
theorem dX7_yearsOf_14 : decode cX7_yearsOf 14 = .ok (.iload_n 2, 1) := by decide +kernel
theorem dX7_yearsOf_15 : decode cX7_yearsOf 15 = .ok (.if_icmp .ge 69, 3) := by decide +kernel
theorem dX7_yearsOf_18 : decode cX7_yearsOf 18 = .ok (.iconst 0, 1) := by decide +kernel
theorem dX7_yearsOf_19 : decode cX7_yearsOf 19 = .ok (.istore 6, 2) := by decide +kernel
theorem dX7_yearsOf_21 : decode cX7_yearsOf 21 = .ok (.iload 6, 2) := by decide +kernel
theorem dX7_yearsOf_23 : decode cX7_yearsOf 23 = .ok (.aload_n 0, 1) := by decide +kernel
theorem dX7_yearsOf_24 : decode cX7_yearsOf 24 = .ok (.getfield 28, 3) := by decide +kernel
theorem dX7_yearsOf_27 : decode cX7_yearsOf 27 = .ok (.iconst 0, 1) := by decide +kernel
theorem dX7_yearsOf_28 : decode cX7_yearsOf 28 = .ok (.iaload, 1) := by decide +kernel
theorem dX7_yearsOf_29 : decode cX7_yearsOf 29 = .ok (.if_icmp .ge 49, 3) := by decide +kernel
theorem dX7_yearsOf_32 : decode cX7_yearsOf 32 = .ok (.aload_n 0, 1) := by decide +kernel
theorem dX7_yearsOf_33 : decode cX7_yearsOf 33 = .ok (.getfield 177, 3) := by decide +kernel
theorem dX7_yearsOf_36 : decode cX7_yearsOf 36 = .ok (.iload 6, 2) := by decide +kernel
theorem dX7_yearsOf_38 : decode cX7_yearsOf 38 = .ok (.invokestatic 139, 3) := by decide +kernel
theorem dX7_yearsOf_41 : decode cX7_yearsOf 41 = .ok (.ifCond .ne 31, 3) := by decide +kernel
theorem dX7_yearsOf_44 : decode cX7_yearsOf 44 = .ok (.aload_n 0, 1) := by decide +kernel
theorem dX7_yearsOf_45 : decode cX7_yearsOf 45 = .ok (.bipush 16, 2) := by decide +kernel
theorem dX7_yearsOf_47 : decode cX7_yearsOf 47 = .ok (.invokevirtual 275, 3) := by decide +kernel
theorem dX7_yearsOf_50 : decode cX7_yearsOf 50 = .ok (.aload_n 0, 1) := by decide +kernel
theorem dX7_yearsOf_51 : decode cX7_yearsOf 51 = .ok (.getfield 31, 3) := by decide +kernel
theorem dX7_yearsOf_54 : decode cX7_yearsOf 54 = .ok (.iconst 2, 1) := by decide +kernel
theorem dX7_yearsOf_55 : decode cX7_yearsOf 55 = .ok (.iload 6, 2) := by decide +kernel
theorem dX7_yearsOf_57 : decode cX7_yearsOf 57 = .ok (.imul, 1) := by decide +kernel
theorem dX7_yearsOf_58 : decode cX7_yearsOf 58 = .ok (.iconst 1, 1) := by decide +kernel
theorem dX7_yearsOf_59 : decode cX7_yearsOf 59 = .ok (.iadd, 1) := by decide +kernel
theorem dX7_yearsOf_60 : decode cX7_yearsOf 60 = .ok (.iaload, 1) := by decide +kernel
theorem dX7_yearsOf_61 : decode cX7_yearsOf 61 = .ok (.if_icmp .ge 11, 3) := by decide +kernel
theorem dX7_yearsOf_64 : decode cX7_yearsOf 64 = .ok (.aload_n 0, 1) := by decide +kernel
theorem dX7_yearsOf_65 : decode cX7_yearsOf 65 = .ok (.iload 5, 2) := by decide +kernel
theorem dX7_yearsOf_67 : decode cX7_yearsOf 67 = .ok (.iload 6, 2) := by decide +kernel
theorem dX7_yearsOf_69 : decode cX7_yearsOf 69 = .ok (.invokevirtual 192, 3) := by decide +kernel
theorem dX7_yearsOf_72 : decode cX7_yearsOf 72 = .ok (.iinc 6 1, 3) := by decide +kernel
theorem dX7_yearsOf_75 : decode cX7_yearsOf 75 = .ok (.goto (-54), 3) := by decide +kernel
theorem dX7_yearsOf_78 : decode cX7_yearsOf 78 = .ok (.iinc 5 1, 3) := by decide +kernel
theorem dX7_yearsOf_81 : decode cX7_yearsOf 81 = .ok (.goto (-69), 3) := by decide +kernel
theorem dX7_yearsOf_84 : decode cX7_yearsOf 84 = .ok (.iload 4, 2) := by decide +kernel
theorem dX7_yearsOf_86 : decode cX7_yearsOf 86 = .ok (.ifCond .ne 12, 3) := by decide +kernel
theorem dX7_yearsOf_89 : decode cX7_yearsOf 89 = .ok (.aload_n 0, 1) := by decide +kernel
theorem dX7_yearsOf_90 : decode cX7_yearsOf 90 = .ok (.getfield 43, 3) := by decide +kernel
theorem dX7_yearsOf_93 : decode cX7_yearsOf 93 = .ok (.iload_n 3, 1) := by decide +kernel
theorem dX7_yearsOf_94 : decode cX7_yearsOf 94 = .ok (.iaload, 1) := by decide +kernel
theorem dX7_yearsOf_95 : decode cX7_yearsOf 95 = .ok (.goto 10, 3) := by decide +kernel
theorem dX7_yearsOf_98 : decode cX7_yearsOf 98 = .ok (.aload_n 0, 1) := by decide +kernel
theorem dX7_yearsOf_99 : decode cX7_yearsOf 99 = .ok (.getfield 177, 3) := by decide +kernel
theorem dX7_yearsOf_102 : decode cX7_yearsOf 102 = .ok (.invokestatic 222, 3) := by decide +kernel
theorem dX7_yearsOf_105 : decode cX7_yearsOf 105 = .ok (.ireturn, 1) := by decide +kernel
theorem dX7_years_0 : decode cX7_years 0 = .ok (.aload_n 0, 1) := by decide +kernel
theorem dX7_years_1 : decode cX7_years 1 = .ok (.invokevirtual 124, 3) := by decide +kernel
theorem dX7_years_4 : decode cX7_years 4 = .ok (.iload_n 2, 1) := by decide +kernel
theorem dX7_years_5 : decode cX7_years 5 = .ok (.i2l, 1) := by decide +kernel
theorem dX7_years_6 : decode cX7_years 6 = .ok (.lconst 1, 1) := by decide +kernel
theorem dX7_years_7 : decode cX7_years 7 = .ok (.ldc2_w 278, 3) := by decide +kernel
theorem dX7_years_10 : decode cX7_years 10 = .ok (.invokestatic 61, 3) := by decide +kernel
theorem dX7_years_13 : decode cX7_years 13 = .ok (.ifCond .eq 31, 3) := by decide +kernel
theorem dX7_years_16 : decode cX7_years 16 = .ok (.aload_n 0, 1) := by decide +kernel
theorem dX7_years_17 : decode cX7_years 17 = .ok (.iload_n 3, 1) := by decide +kernel
theorem dX7_years_18 : decode cX7_years 18 = .ok (.invokevirtual 133, 3) := by decide +kernel
theorem dX7_years_21 : decode cX7_years 21 = .ok (.ifCond .eq 23, 3) := by decide +kernel
theorem dX7_years_24 : decode cX7_years 24 = .ok (.iload 4, 2) := by decide +kernel
theorem dX7_years_26 : decode cX7_years 26 = .ok (.invokestatic 130, 3) := by decide +kernel
theorem dX7_years_29 : decode cX7_years 29 = .ok (.ifCond .eq 15, 3) := by decide +kernel
theorem dX7_years_32 : decode cX7_years 32 = .ok (.aload_n 0, 1) := by decide +kernel
theorem dX7_years_33 : decode cX7_years 33 = .ok (.iload_n 1, 1) := by decide +kernel
theorem dX7_years_34 : decode cX7_years 34 = .ok (.iload_n 2, 1) := by decide +kernel
theorem dX7_years_35 : decode cX7_years 35 = .ok (.iload_n 3, 1) := by decide +kernel
theorem dX7_years_36 : decode cX7_years 36 = .ok (.iload 4, 2) := by decide +kernel
theorem dX7_years_38 : decode cX7_years 38 = .ok (.invokevirtual 280, 3) := by decide +kernel
theorem dX7_years_41 : decode cX7_years 41 = .ok (.goto 5, 3) := by decide +kernel
theorem dX7_years_44 : decode cX7_years 44 = .ok (.bipush (-2), 2) := by decide +kernel
theorem dX7_years_46 : decode cX7_years 46 = .ok (.ireturn, 1) := by decide +kernel
theorem dX7_write_0 : decode cX7_write 0 = .ok (.iload_n 1, 1) := by decide +kernel
theorem dX7_write_1 : decode cX7_write 1 = .ok (.invokestatic 164, 3) := by decide +kernel
theorem dX7_write_4 : decode cX7_write 4 = .ok (.ifCond .eq 10, 3) := by decide +kernel
theorem dX7_write_7 : decode cX7_write 7 = .ok (.iload_n 2, 1) := by decide +kernel
theorem dX7_write_8 : decode cX7_write 8 = .ok (.invokestatic 70, 3) := by decide +kernel
theorem dX7_write_11 : decode cX7_write 11 = .ok (.ifCond .ne 6, 3) := by decide +kernel
theorem dX7_write_14 : decode cX7_write 14 = .ok (.bipush (-2), 2) := by decide +kernel
theorem dX7_write_16 : decode cX7_write 16 = .ok (.ireturn, 1) := by decide +kernel
theorem dX7_write_17 : decode cX7_write 17 = .ok (.aload_n 0, 1) := by decide +kernel
theorem dX7_write_18 : decode cX7_write 18 = .ok (.getfield 7, 3) := by decide +kernel
theorem dX7_write_21 : decode cX7_write 21 = .ok (.iload_n 2, 1) := by decide +kernel
theorem dX7_write_22 : decode cX7_write 22 = .ok (.iaload, 1) := by decide +kernel
theorem dX7_write_23 : decode cX7_write 23 = .ok (.ifCond .ge 9, 3) := by decide +kernel
theorem dX7_write_26 : decode cX7_write 26 = .ok (.aload_n 0, 1) := by decide +kernel
theorem dX7_write_27 : decode cX7_write 27 = .ok (.iconst 1, 1) := by decide +kernel
theorem dX7_write_28 : decode cX7_write 28 = .ok (.invokevirtual 76, 3) := by decide +kernel
theorem dX7_write_31 : decode cX7_write 31 = .ok (.ireturn, 1) := by decide +kernel
theorem dX7_write_32 : decode cX7_write 32 = .ok (.aload_n 0, 1) := by decide +kernel
theorem dX7_write_33 : decode cX7_write 33 = .ok (.invokevirtual 124, 3) := by decide +kernel
theorem dX7_write_36 : decode cX7_write 36 = .ok (.aload_n 0, 1) := by decide +kernel
theorem dX7_write_37 : decode cX7_write 37 = .ok (.iload_n 1, 1) := by decide +kernel
theorem dX7_write_38 : decode cX7_write 38 = .ok (.invokevirtual 196, 3) := by decide +kernel
theorem dX7_write_41 : decode cX7_write 41 = .ok (.aload_n 0, 1) := by decide +kernel
theorem dX7_write_42 : decode cX7_write 42 = .ok (.getfield 13, 3) := by decide +kernel
theorem dX7_write_45 : decode cX7_write 45 = .ok (.iload_n 2, 1) := by decide +kernel
theorem dX7_write_46 : decode cX7_write 46 = .ok (.iaload, 1) := by decide +kernel
theorem dX7_write_47 : decode cX7_write 47 = .ok (.aload_n 0, 1) := by decide +kernel
theorem dX7_write_48 : decode cX7_write 48 = .ok (.getfield 28, 3) := by decide +kernel
theorem dX7_write_51 : decode cX7_write 51 = .ok (.iconst 1, 1) := by decide +kernel
theorem dX7_write_52 : decode cX7_write 52 = .ok (.iaload, 1) := by decide +kernel
theorem dX7_write_53 : decode cX7_write 53 = .ok (.invokestatic 186, 3) := by decide +kernel
theorem dX7_write_56 : decode cX7_write 56 = .ok (.istore_n 3, 1) := by decide +kernel
theorem dX7_write_57 : decode cX7_write 57 = .ok (.iconst 0, 1) := by decide +kernel
theorem dX7_write_58 : decode cX7_write 58 = .ok (.istore 4, 2) := by decide +kernel
theorem dX7_write_60 : decode cX7_write 60 = .ok (.iload 4, 2) := by decide +kernel
theorem dX7_write_62 : decode cX7_write 62 = .ok (.iload_n 3, 1) := by decide +kernel
theorem dX7_write_63 : decode cX7_write 63 = .ok (.if_icmp .ge 37, 3) := by decide +kernel
theorem dX7_write_66 : decode cX7_write 66 = .ok (.aload_n 0, 1) := by decide +kernel
theorem dX7_write_67 : decode cX7_write 67 = .ok (.getfield 16, 3) := by decide +kernel
theorem dX7_write_70 : decode cX7_write 70 = .ok (.bipush 60, 2) := by decide +kernel
theorem dX7_write_72 : decode cX7_write 72 = .ok (.iload_n 2, 1) := by decide +kernel
theorem dX7_write_73 : decode cX7_write 73 = .ok (.imul, 1) := by decide +kernel
theorem dX7_write_74 : decode cX7_write 74 = .ok (.iload 4, 2) := by decide +kernel
theorem dX7_write_76 : decode cX7_write 76 = .ok (.iadd, 1) := by decide +kernel
theorem dX7_write_77 : decode cX7_write 77 = .ok (.aload_n 0, 1) := by decide +kernel
theorem dX7_write_78 : decode cX7_write 78 = .ok (.getfield 7, 3) := by decide +kernel
theorem dX7_write_81 : decode cX7_write 81 = .ok (.iload_n 2, 1) := by decide +kernel
theorem dX7_write_82 : decode cX7_write 82 = .ok (.iaload, 1) := by decide +kernel
theorem dX7_write_83 : decode cX7_write 83 = .ok (.aload_n 0, 1) := by decide +kernel
theorem dX7_write_84 : decode cX7_write 84 = .ok (.getfield 43, 3) := by decide +kernel
theorem dX7_write_87 : decode cX7_write 87 = .ok (.iload 4, 2) := by decide +kernel
theorem dX7_write_89 : decode cX7_write 89 = .ok (.iaload, 1) := by decide +kernel
theorem dX7_write_90 : decode cX7_write 90 = .ok (.invokestatic 84, 3) := by decide +kernel
theorem dX7_write_93 : decode cX7_write 93 = .ok (.iastore, 1) := by decide +kernel
theorem dX7_write_94 : decode cX7_write 94 = .ok (.iinc 4 1, 3) := by decide +kernel
theorem dX7_write_97 : decode cX7_write 97 = .ok (.goto (-37), 3) := by decide +kernel
theorem dX7_write_100 : decode cX7_write 100 = .ok (.iload_n 3, 1) := by decide +kernel
theorem dX7_write_101 : decode cX7_write 101 = .ok (.ireturn, 1) := by decide +kernel
theorem dX7_count_0 : decode cX7_count 0 = .ok (.aload_n 0, 1) := by decide +kernel
theorem dX7_count_1 : decode cX7_count 1 = .ok (.invokevirtual 124, 3) := by decide +kernel
theorem dX7_count_4 : decode cX7_count 4 = .ok (.iload_n 1, 1) := by decide +kernel
theorem dX7_count_5 : decode cX7_count 5 = .ok (.tableswitch 82 0 8 #[51, 51, 51, 58, 58, 58, 67, 72, 77], 51) := by decide +kernel
theorem dX7_count_56 : decode cX7_count 56 = .ok (.aload_n 0, 1) := by decide +kernel
theorem dX7_count_57 : decode cX7_count 57 = .ok (.getfield 28, 3) := by decide +kernel
theorem dX7_count_60 : decode cX7_count 60 = .ok (.iload_n 1, 1) := by decide +kernel
theorem dX7_count_61 : decode cX7_count 61 = .ok (.iaload, 1) := by decide +kernel
theorem dX7_count_62 : decode cX7_count 62 = .ok (.ireturn, 1) := by decide +kernel
theorem dX7_count_63 : decode cX7_count 63 = .ok (.aload_n 0, 1) := by decide +kernel
theorem dX7_count_64 : decode cX7_count 64 = .ok (.getfield 25, 3) := by decide +kernel
theorem dX7_count_67 : decode cX7_count 67 = .ok (.iload_n 1, 1) := by decide +kernel
theorem dX7_count_68 : decode cX7_count 68 = .ok (.iconst 3, 1) := by decide +kernel
theorem dX7_count_69 : decode cX7_count 69 = .ok (.isub, 1) := by decide +kernel
theorem dX7_count_70 : decode cX7_count 70 = .ok (.iaload, 1) := by decide +kernel
theorem dX7_count_71 : decode cX7_count 71 = .ok (.ireturn, 1) := by decide +kernel
theorem dX7_count_72 : decode cX7_count 72 = .ok (.aload_n 0, 1) := by decide +kernel
theorem dX7_count_73 : decode cX7_count 73 = .ok (.getfield 169, 3) := by decide +kernel
theorem dX7_count_76 : decode cX7_count 76 = .ok (.ireturn, 1) := by decide +kernel
theorem dX7_count_77 : decode cX7_count 77 = .ok (.aload_n 0, 1) := by decide +kernel
theorem dX7_count_78 : decode cX7_count 78 = .ok (.getfield 236, 3) := by decide +kernel
theorem dX7_count_81 : decode cX7_count 81 = .ok (.ireturn, 1) := by decide +kernel
theorem dX7_count_82 : decode cX7_count 82 = .ok (.aload_n 0, 1) := by decide +kernel
theorem dX7_count_83 : decode cX7_count 83 = .ok (.getfield 65, 3) := by decide +kernel
theorem dX7_count_86 : decode cX7_count 86 = .ok (.ireturn, 1) := by decide +kernel
theorem dX7_count_87 : decode cX7_count 87 = .ok (.bipush (-2), 2) := by decide +kernel
theorem dX7_count_89 : decode cX7_count 89 = .ok (.ireturn, 1) := by decide +kernel
