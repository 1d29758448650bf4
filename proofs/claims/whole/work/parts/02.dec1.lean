theorem dX6_init_67 : decode cX6_init 67 = .ok (.putfield 41, 3) := by decide +kernel
theorem dX6_init_70 : decode cX6_init 70 = .ok (.new 45, 3) := by decide +kernel
theorem dX6_init_73 : decode cX6_init 73 = .ok (.dup, 1) := by decide +kernel
theorem dX6_init_74 : decode cX6_init 74 = .ok (.invokespecial 47, 3) := by decide +kernel
theorem dX6_init_77 : decode cX6_init 77 = .ok (.astore_n 1, 1) := by decide +kernel
theorem dX6_init_78 : decode cX6_init 78 = .ok (.new 48, 3) := by decide +kernel
theorem dX6_init_81 : decode cX6_init 81 = .ok (.dup, 1) := by decide +kernel
theorem dX6_init_82 : decode cX6_init 82 = .ok (.aload_n 1, 1) := by decide +kernel
theorem dX6_init_83 : decode cX6_init 83 = .ok (.invokespecial 50, 3) := by decide +kernel
theorem dX6_init_86 : decode cX6_init 86 = .ok (.astore_n 2, 1) := by decide +kernel
theorem dX6_init_87 : decode cX6_init 87 = .ok (.new 30, 3) := by decide +kernel
theorem dX6_init_90 : decode cX6_init 90 = .ok (.dup, 1) := by decide +kernel
theorem dX6_init_91 : decode cX6_init 91 = .ok (.bipush 8, 2) := by decide +kernel
theorem dX6_init_93 : decode cX6_init 93 = .ok (.invokespecial 32, 3) := by decide +kernel
theorem dX6_init_96 : decode cX6_init 96 = .ok (.astore_n 3, 1) := by decide +kernel
theorem dX6_init_97 : decode cX6_init 97 = .ok (.aload_n 0, 1) := by decide +kernel
theorem dX6_init_98 : decode cX6_init 98 = .ok (.aload_n 1, 1) := by decide +kernel
theorem dX6_init_99 : decode cX6_init 99 = .ok (.putfield 53, 3) := by decide +kernel
theorem dX6_init_102 : decode cX6_init 102 = .ok (.aload_n 0, 1) := by decide +kernel
theorem dX6_init_103 : decode cX6_init 103 = .ok (.aload_n 2, 1) := by decide +kernel
theorem dX6_init_104 : decode cX6_init 104 = .ok (.putfield 57, 3) := by decide +kernel
theorem dX6_init_107 : decode cX6_init 107 = .ok (.aload_n 0, 1) := by decide +kernel
theorem dX6_init_108 : decode cX6_init 108 = .ok (.aload_n 3, 1) := by decide +kernel
theorem dX6_init_109 : decode cX6_init 109 = .ok (.putfield 61, 3) := by decide +kernel
theorem dX6_init_112 : decode cX6_init 112 = .ok (.aload_n 0, 1) := by decide +kernel
theorem dX6_init_113 : decode cX6_init 113 = .ok (.new 64, 3) := by decide +kernel
theorem dX6_init_116 : decode cX6_init 116 = .ok (.dup, 1) := by decide +kernel
theorem dX6_init_117 : decode cX6_init 117 = .ok (.aload_n 1, 1) := by decide +kernel
theorem dX6_init_118 : decode cX6_init 118 = .ok (.aload_n 2, 1) := by decide +kernel
theorem dX6_init_119 : decode cX6_init 119 = .ok (.aload_n 3, 1) := by decide +kernel
theorem dX6_init_120 : decode cX6_init 120 = .ok (.invokespecial 66, 3) := by decide +kernel
theorem dX6_init_123 : decode cX6_init 123 = .ok (.putfield 69, 3) := by decide +kernel
theorem dX6_init_126 : decode cX6_init 126 = .ok (.iconst 0, 1) := by decide +kernel
theorem dX6_init_127 : decode cX6_init 127 = .ok (.istore 4, 2) := by decide +kernel
theorem dX6_init_129 : decode cX6_init 129 = .ok (.iload 4, 2) := by decide +kernel
theorem dX6_init_131 : decode cX6_init 131 = .ok (.iconst 4, 1) := by decide +kernel
theorem dX6_init_132 : decode cX6_init 132 = .ok (.if_icmp .ge 23, 3) := by decide +kernel
theorem dX6_init_135 : decode cX6_init 135 = .ok (.aload_n 0, 1) := by decide +kernel
theorem dX6_init_136 : decode cX6_init 136 = .ok (.getfield 41, 3) := by decide +kernel
theorem dX6_init_139 : decode cX6_init 139 = .ok (.iload 4, 2) := by decide +kernel
theorem dX6_init_141 : decode cX6_init 141 = .ok (.new 39, 3) := by decide +kernel
theorem dX6_init_144 : decode cX6_init 144 = .ok (.dup, 1) := by decide +kernel
theorem dX6_init_145 : decode cX6_init 145 = .ok (.invokespecial 73, 3) := by decide +kernel
theorem dX6_init_148 : decode cX6_init 148 = .ok (.aastore, 1) := by decide +kernel
theorem dX6_init_149 : decode cX6_init 149 = .ok (.iinc 4 1, 3) := by decide +kernel
theorem dX6_init_152 : decode cX6_init 152 = .ok (.goto (-23), 3) := by decide +kernel
theorem dX6_init_155 : decode cX6_init 155 = .ok (.return_, 1) := by decide +kernel
theorem dX6_type_0 : decode cX6_type 0 = .ok (.aload_n 0, 1) := by decide +kernel
theorem dX6_type_1 : decode cX6_type 1 = .ok (.iload_n 1, 1) := by decide +kernel
theorem dX6_type_2 : decode cX6_type 2 = .ok (.invokevirtual 74, 3) := by decide +kernel
theorem dX6_type_5 : decode cX6_type 5 = .ok (.astore_n 3, 1) := by decide +kernel
theorem dX6_type_6 : decode cX6_type 6 = .ok (.aload_n 3, 1) := by decide +kernel
theorem dX6_type_7 : decode cX6_type 7 = .ok (.ifnull 13, 3) := by decide +kernel
theorem dX6_type_10 : decode cX6_type 10 = .ok (.iload_n 2, 1) := by decide +kernel
theorem dX6_type_11 : decode cX6_type 11 = .ok (.sipush 255, 3) := by decide +kernel
theorem dX6_type_14 : decode cX6_type 14 = .ok (.invokestatic 78, 3) := by decide +kernel
theorem dX6_type_17 : decode cX6_type 17 = .ok (.ifCond .ne 6, 3) := by decide +kernel
theorem dX6_type_20 : decode cX6_type 20 = .ok (.bipush (-2), 2) := by decide +kernel
theorem dX6_type_22 : decode cX6_type 22 = .ok (.ireturn, 1) := by decide +kernel
theorem dX6_type_23 : decode cX6_type 23 = .ok (.aload_n 3, 1) := by decide +kernel
theorem dX6_type_24 : decode cX6_type 24 = .ok (.invokevirtual 82, 3) := by decide +kernel
theorem dX6_type_27 : decode cX6_type 27 = .ok (.ifCond .eq 6, 3) := by decide +kernel
theorem dX6_type_30 : decode cX6_type 30 = .ok (.bipush (-4), 2) := by decide +kernel
theorem dX6_type_32 : decode cX6_type 32 = .ok (.ireturn, 1) := by decide +kernel
theorem dX6_type_33 : decode cX6_type 33 = .ok (.aload_n 3, 1) := by decide +kernel
theorem dX6_type_34 : decode cX6_type 34 = .ok (.iload_n 2, 1) := by decide +kernel
theorem dX6_type_35 : decode cX6_type 35 = .ok (.invokevirtual 86, 3) := by decide +kernel
theorem dX6_type_38 : decode cX6_type 38 = .ok (.aload_n 0, 1) := by decide +kernel
theorem dX6_type_39 : decode cX6_type 39 = .ok (.invokevirtual 89, 3) := by decide +kernel
theorem dX6_type_42 : decode cX6_type 42 = .ok (.aload_n 3, 1) := by decide +kernel
theorem dX6_type_43 : decode cX6_type 43 = .ok (.getfield 92, 3) := by decide +kernel
theorem dX6_type_46 : decode cX6_type 46 = .ok (.ireturn, 1) := by decide +kernel
theorem dX6_wipe_0 : decode cX6_wipe 0 = .ok (.aload_n 0, 1) := by decide +kernel
theorem dX6_wipe_1 : decode cX6_wipe 1 = .ok (.iload_n 1, 1) := by decide +kernel
theorem dX6_wipe_2 : decode cX6_wipe 2 = .ok (.invokevirtual 74, 3) := by decide +kernel
theorem dX6_wipe_5 : decode cX6_wipe 5 = .ok (.astore_n 2, 1) := by decide +kernel
theorem dX6_wipe_6 : decode cX6_wipe 6 = .ok (.aload_n 2, 1) := by decide +kernel
theorem dX6_wipe_7 : decode cX6_wipe 7 = .ok (.ifnonnull 6, 3) := by decide +kernel
theorem dX6_wipe_10 : decode cX6_wipe 10 = .ok (.bipush (-2), 2) := by decide +kernel
theorem dX6_wipe_12 : decode cX6_wipe 12 = .ok (.ireturn, 1) := by decide +kernel
theorem dX6_wipe_13 : decode cX6_wipe 13 = .ok (.aload_n 2, 1) := by decide +kernel
theorem dX6_wipe_14 : decode cX6_wipe 14 = .ok (.getfield 92, 3) := by decide +kernel
theorem dX6_wipe_17 : decode cX6_wipe 17 = .ok (.istore_n 3, 1) := by decide +kernel
theorem dX6_wipe_18 : decode cX6_wipe 18 = .ok (.aload_n 2, 1) := by decide +kernel
theorem dX6_wipe_19 : decode cX6_wipe 19 = .ok (.iconst 0, 1) := by decide +kernel
theorem dX6_wipe_20 : decode cX6_wipe 20 = .ok (.putfield 92, 3) := by decide +kernel
theorem dX6_wipe_23 : decode cX6_wipe 23 = .ok (.aload_n 0, 1) := by decide +kernel
theorem dX6_wipe_24 : decode cX6_wipe 24 = .ok (.invokevirtual 89, 3) := by decide +kernel
theorem dX6_wipe_27 : decode cX6_wipe 27 = .ok (.iload_n 3, 1) := by decide +kernel
theorem dX6_wipe_28 : decode cX6_wipe 28 = .ok (.ireturn, 1) := by decide +kernel
theorem dX6_undo_0 : decode cX6_undo 0 = .ok (.aload_n 0, 1) := by decide +kernel
theorem dX6_undo_1 : decode cX6_undo 1 = .ok (.iload_n 1, 1) := by decide +kernel
theorem dX6_undo_2 : decode cX6_undo 2 = .ok (.invokevirtual 74, 3) := by decide +kernel
theorem dX6_undo_5 : decode cX6_undo 5 = .ok (.astore_n 2, 1) := by decide +kernel
theorem dX6_undo_6 : decode cX6_undo 6 = .ok (.aload_n 2, 1) := by decide +kernel
theorem dX6_undo_7 : decode cX6_undo 7 = .ok (.ifnonnull 6, 3) := by decide +kernel
theorem dX6_undo_10 : decode cX6_undo 10 = .ok (.bipush (-2), 2) := by decide +kernel
theorem dX6_undo_12 : decode cX6_undo 12 = .ok (.ireturn, 1) := by decide +kernel
theorem dX6_undo_13 : decode cX6_undo 13 = .ok (.aload_n 2, 1) := by decide +kernel
theorem dX6_undo_14 : decode cX6_undo 14 = .ok (.getfield 92, 3) := by decide +kernel
theorem dX6_undo_17 : decode cX6_undo 17 = .ok (.ifCond .ne 6, 3) := by decide +kernel
theorem dX6_undo_20 : decode cX6_undo 20 = .ok (.bipush (-3), 2) := by decide +kernel
theorem dX6_undo_22 : decode cX6_undo 22 = .ok (.ireturn, 1) := by decide +kernel
theorem dX6_undo_23 : decode cX6_undo 23 = .ok (.aload_n 2, 1) := by decide +kernel
theorem dX6_undo_24 : decode cX6_undo 24 = .ok (.dup, 1) := by decide +kernel
theorem dX6_undo_25 : decode cX6_undo 25 = .ok (.getfield 92, 3) := by decide +kernel
theorem dX6_undo_28 : decode cX6_undo 28 = .ok (.iconst 1, 1) := by decide +kernel
theorem dX6_undo_29 : decode cX6_undo 29 = .ok (.isub, 1) := by decide +kernel
theorem dX6_undo_30 : decode cX6_undo 30 = .ok (.putfield 92, 3) := by decide +kernel
theorem dX6_undo_33 : decode cX6_undo 33 = .ok (.aload_n 0, 1) := by decide +kernel
theorem dX6_undo_34 : decode cX6_undo 34 = .ok (.invokevirtual 89, 3) := by decide +kernel
theorem dX6_undo_37 : decode cX6_undo 37 = .ok (.aload_n 2, 1) := by decide +kernel
theorem dX6_undo_38 : decode cX6_undo 38 = .ok (.getfield 92, 3) := by decide +kernel
theorem dX6_undo_41 : decode cX6_undo 41 = .ok (.ireturn, 1) := by decide +kernel
theorem dX6_fault_0 : decode cX6_fault 0 = .ok (.aload_n 0, 1) := by decide +kernel
theorem dX6_fault_1 : decode cX6_fault 1 = .ok (.iload_n 1, 1) := by decide +kernel
theorem dX6_fault_2 : decode cX6_fault 2 = .ok (.invokevirtual 74, 3) := by decide +kernel
theorem dX6_fault_5 : decode cX6_fault 5 = .ok (.astore_n 2, 1) := by decide +kernel
theorem dX6_fault_6 : decode cX6_fault 6 = .ok (.aload_n 2, 1) := by decide +kernel
theorem dX6_fault_7 : decode cX6_fault 7 = .ok (.ifnonnull 8, 3) := by decide +kernel
theorem dX6_fault_10 : decode cX6_fault 10 = .ok (.bipush (-2), 2) := by decide +kernel
theorem dX6_fault_12 : decode cX6_fault 12 = .ok (.goto 7, 3) := by decide +kernel
theorem dX6_fault_15 : decode cX6_fault 15 = .ok (.aload_n 2, 1) := by decide +kernel
theorem dX6_fault_16 : decode cX6_fault 16 = .ok (.invokevirtual 96, 3) := by decide +kernel
theorem dX6_fault_19 : decode cX6_fault 19 = .ok (.ireturn, 1) := by decide +kernel
theorem dX6_ship_0 : decode cX6_ship 0 = .ok (.aload_n 0, 1) := by decide +kernel
theorem dX6_ship_1 : decode cX6_ship 1 = .ok (.getfield 53, 3) := by decide +kernel
theorem dX6_ship_4 : decode cX6_ship 4 = .ok (.iload_n 1, 1) := by decide +kernel
theorem dX6_ship_5 : decode cX6_ship 5 = .ok (.invokevirtual 100, 3) := by decide +kernel
theorem dX6_ship_8 : decode cX6_ship 8 = .ok (.ifCond .eq 11, 3) := by decide +kernel
theorem dX6_ship_11 : decode cX6_ship 11 = .ok (.iload_n 2, 1) := by decide +kernel
theorem dX6_ship_12 : decode cX6_ship 12 = .ok (.iconst 1, 1) := by decide +kernel
theorem dX6_ship_13 : decode cX6_ship 13 = .ok (.invokestatic 78, 3) := by decide +kernel
theorem dX6_ship_16 : decode cX6_ship 16 = .ok (.ifCond .ne 6, 3) := by decide +kernel
theorem dX6_ship_19 : decode cX6_ship 19 = .ok (.bipush (-2), 2) := by decide +kernel
theorem dX6_ship_21 : decode cX6_ship 21 = .ok (.ireturn, 1) := by decide +kernel
theorem dX6_ship_22 : decode cX6_ship 22 = .ok (.iload_n 2, 1) := by decide +kernel
theorem dX6_ship_23 : decode cX6_ship 23 = .ok (.ifCond .ne 15, 3) := by decide +kernel
theorem dX6_ship_26 : decode cX6_ship 26 = .ok (.aload_n 0, 1) := by decide +kernel
theorem dX6_ship_27 : decode cX6_ship 27 = .ok (.getfield 53, 3) := by decide +kernel
theorem dX6_ship_30 : decode cX6_ship 30 = .ok (.getfield 104, 3) := by decide +kernel
theorem dX6_ship_33 : decode cX6_ship 33 = .ok (.iload_n 1, 1) := by decide +kernel
theorem dX6_ship_34 : decode cX6_ship 34 = .ok (.iaload, 1) := by decide +kernel
theorem dX6_ship_35 : decode cX6_ship 35 = .ok (.goto 12, 3) := by decide +kernel
theorem dX6_ship_38 : decode cX6_ship 38 = .ok (.aload_n 0, 1) := by decide +kernel
theorem dX6_ship_39 : decode cX6_ship 39 = .ok (.getfield 53, 3) := by decide +kernel
theorem dX6_ship_42 : decode cX6_ship 42 = .ok (.getfield 108, 3) := by decide +kernel
theorem dX6_ship_45 : decode cX6_ship 45 = .ok (.iload_n 1, 1) := by decide +kernel
theorem dX6_ship_46 : decode cX6_ship 46 = .ok (.iaload, 1) := by decide +kernel
theorem dX6_ship_47 : decode cX6_ship 47 = .ok (.ireturn, 1) := by decide +kernel
theorem dX6_name_0 : decode cX6_name 0 = .ok (.aload_n 0, 1) := by decide +kernel
theorem dX6_name_1 : decode cX6_name 1 = .ok (.getfield 53, 3) := by decide +kernel
theorem dX6_name_4 : decode cX6_name 4 = .ok (.iload_n 1, 1) := by decide +kernel
theorem dX6_name_5 : decode cX6_name 5 = .ok (.invokevirtual 111, 3) := by decide +kernel
theorem dX6_name_8 : decode cX6_name 8 = .ok (.ifCond .ne 6, 3) := by decide +kernel
theorem dX6_name_11 : decode cX6_name 11 = .ok (.bipush (-2), 2) := by decide +kernel
theorem dX6_name_13 : decode cX6_name 13 = .ok (.ireturn, 1) := by decide +kernel
theorem dX6_name_14 : decode cX6_name 14 = .ok (.iload_n 2, 1) := by decide +kernel
theorem dX6_name_15 : decode cX6_name 15 = .ok (.tableswitch 62 0 2 #[25, 35, 52], 25) := by decide +kernel
theorem dX6_name_40 : decode cX6_name 40 = .ok (.aload_n 0, 1) := by decide +kernel
theorem dX6_name_41 : decode cX6_name 41 = .ok (.getfield 53, 3) := by decide +kernel
theorem dX6_name_44 : decode cX6_name 44 = .ok (.getfield 114, 3) := by decide +kernel
theorem dX6_name_47 : decode cX6_name 47 = .ok (.iload_n 1, 1) := by decide +kernel
theorem dX6_name_48 : decode cX6_name 48 = .ok (.iaload, 1) := by decide +kernel
theorem dX6_name_49 : decode cX6_name 49 = .ok (.ireturn, 1) := by decide +kernel
theorem dX6_name_50 : decode cX6_name 50 = .ok (.aload_n 0, 1) := by decide +kernel
theorem dX6_name_51 : decode cX6_name 51 = .ok (.getfield 53, 3) := by decide +kernel
theorem dX6_name_54 : decode cX6_name 54 = .ok (.iload_n 1, 1) := by decide +kernel
theorem dX6_name_55 : decode cX6_name 55 = .ok (.invokevirtual 117, 3) := by decide +kernel
theorem dX6_name_58 : decode cX6_name 58 = .ok (.ifCond .eq 7, 3) := by decide +kernel
theorem dX6_name_61 : decode cX6_name 61 = .ok (.iconst 1, 1) := by decide +kernel
theorem dX6_name_62 : decode cX6_name 62 = .ok (.goto 4, 3) := by decide +kernel
theorem dX6_name_65 : decode cX6_name 65 = .ok (.iconst 0, 1) := by decide +kernel
theorem dX6_name_66 : decode cX6_name 66 = .ok (.ireturn, 1) := by decide +kernel
theorem dX6_name_67 : decode cX6_name 67 = .ok (.aload_n 0, 1) := by decide +kernel
theorem dX6_name_68 : decode cX6_name 68 = .ok (.getfield 53, 3) := by decide +kernel
theorem dX6_name_71 : decode cX6_name 71 = .ok (.getfield 120, 3) := by decide +kernel
theorem dX6_name_74 : decode cX6_name 74 = .ok (.iload_n 1, 1) := by decide +kernel
theorem dX6_name_75 : decode cX6_name 75 = .ok (.iaload, 1) := by decide +kernel
theorem dX6_name_76 : decode cX6_name 76 = .ok (.ireturn, 1) := by decide +kernel
theorem dX6_name_77 : decode cX6_name 77 = .ok (.bipush (-2), 2) := by decide +kernel
theorem dX6_name_79 : decode cX6_name 79 = .ok (.ireturn, 1) := by decide +kernel
theorem dX6_line_0 : decode cX6_line 0 = .ok (.aload_n 0, 1) := by decide +kernel
theorem dX6_line_1 : decode cX6_line 1 = .ok (.getfield 53, 3) := by decide +kernel
theorem dX6_line_4 : decode cX6_line 4 = .ok (.iload_n 1, 1) := by decide +kernel
theorem dX6_line_5 : decode cX6_line 5 = .ok (.invokevirtual 123, 3) := by decide +kernel
theorem dX6_line_8 : decode cX6_line 8 = .ok (.ifCond .ne 6, 3) := by decide +kernel
theorem dX6_line_11 : decode cX6_line 11 = .ok (.bipush (-2), 2) := by decide +kernel
theorem dX6_line_13 : decode cX6_line 13 = .ok (.ireturn, 1) := by decide +kernel
theorem dX6_line_14 : decode cX6_line 14 = .ok (.iload_n 2, 1) := by decide +kernel
theorem dX6_line_15 : decode cX6_line 15 = .ok (.tableswitch 69 0 3 #[29, 39, 49, 59], 29) := by decide +kernel
theorem dX6_line_44 : decode cX6_line 44 = .ok (.aload_n 0, 1) := by decide +kernel
theorem dX6_line_45 : decode cX6_line 45 = .ok (.getfield 53, 3) := by decide +kernel
theorem dX6_line_48 : decode cX6_line 48 = .ok (.getfield 126, 3) := by decide +kernel
theorem dX6_line_51 : decode cX6_line 51 = .ok (.iload_n 1, 1) := by decide +kernel
theorem dX6_line_52 : decode cX6_line 52 = .ok (.iaload, 1) := by decide +kernel
theorem dX6_line_53 : decode cX6_line 53 = .ok (.ireturn, 1) := by decide +kernel
theorem dX6_line_54 : decode cX6_line 54 = .ok (.aload_n 0, 1) := by decide +kernel
theorem dX6_line_55 : decode cX6_line 55 = .ok (.getfield 53, 3) := by decide +kernel
theorem dX6_line_58 : decode cX6_line 58 = .ok (.getfield 129, 3) := by decide +kernel
theorem dX6_line_61 : decode cX6_line 61 = .ok (.iload_n 1, 1) := by decide +kernel
theorem dX6_line_62 : decode cX6_line 62 = .ok (.iaload, 1) := by decide +kernel
theorem dX6_line_63 : decode cX6_line 63 = .ok (.ireturn, 1) := by decide +kernel
theorem dX6_line_64 : decode cX6_line 64 = .ok (.aload_n 0, 1) := by decide +kernel
theorem dX6_line_65 : decode cX6_line 65 = .ok (.getfield 53, 3) := by decide +kernel
theorem dX6_line_68 : decode cX6_line 68 = .ok (.getfield 132, 3) := by decide +kernel
theorem dX6_line_71 : decode cX6_line 71 = .ok (.iload_n 1, 1) := by decide +kernel
theorem dX6_line_72 : decode cX6_line 72 = .ok (.iaload, 1) := by decide +kernel
theorem dX6_line_73 : decode cX6_line 73 = .ok (.ireturn, 1) := by decide +kernel
theorem dX6_line_74 : decode cX6_line 74 = .ok (.aload_n 0, 1) := by decide +kernel
theorem dX6_line_75 : decode cX6_line 75 = .ok (.getfield 53, 3) := by decide +kernel
theorem dX6_line_78 : decode cX6_line 78 = .ok (.getfield 135, 3) := by decide +kernel
theorem dX6_line_81 : decode cX6_line 81 = .ok (.iload_n 1, 1) := by decide +kernel
theorem dX6_line_82 : decode cX6_line 82 = .ok (.iaload, 1) := by decide +kernel
theorem dX6_line_83 : decode cX6_line 83 = .ok (.ireturn, 1) := by decide +kernel
theorem dX6_line_84 : decode cX6_line 84 = .ok (.bipush (-2), 2) := by decide +kernel
theorem dX6_line_86 : decode cX6_line 86 = .ok (.ireturn, 1) := by decide +kernel
theorem dX6_struck_0 : decode cX6_struck 0 = .ok (.iload_n 1, 1) := by decide +kernel
theorem dX6_struck_1 : decode cX6_struck 1 = .ok (.sipush 255, 3) := by decide +kernel
theorem dX6_struck_4 : decode cX6_struck 4 = .ok (.invokestatic 78, 3) := by decide +kernel
theorem dX6_struck_7 : decode cX6_struck 7 = .ok (.ifCond .ne 6, 3) := by decide +kernel
theorem dX6_struck_10 : decode cX6_struck 10 = .ok (.bipush (-2), 2) := by decide +kernel
theorem dX6_struck_12 : decode cX6_struck 12 = .ok (.ireturn, 1) := by decide +kernel
theorem dX6_struck_13 : decode cX6_struck 13 = .ok (.aload_n 0, 1) := by decide +kernel
theorem dX6_struck_14 : decode cX6_struck 14 = .ok (.getfield 138, 3) := by decide +kernel
theorem dX6_struck_17 : decode cX6_struck 17 = .ok (.istore_n 2, 1) := by decide +kernel
theorem dX6_struck_18 : decode cX6_struck 18 = .ok (.aload_n 0, 1) := by decide +kernel
theorem dX6_struck_19 : decode cX6_struck 19 = .ok (.iload_n 1, 1) := by decide +kernel
theorem dX6_struck_20 : decode cX6_struck 20 = .ok (.putfield 138, 3) := by decide +kernel
theorem dX6_struck_23 : decode cX6_struck 23 = .ok (.aload_n 0, 1) := by decide +kernel
theorem dX6_struck_24 : decode cX6_struck 24 = .ok (.invokevirtual 89, 3) := by decide +kernel
theorem dX6_struck_27 : decode cX6_struck 27 = .ok (.iload_n 2, 1) := by decide +kernel
theorem dX6_struck_28 : decode cX6_struck 28 = .ok (.ireturn, 1) := by decide +kernel
theorem dX6_loss_0 : decode cX6_loss 0 = .ok (.iload_n 1, 1) := by decide +kernel
theorem dX6_loss_1 : decode cX6_loss 1 = .ok (.iload_n 2, 1) := by decide +kernel
theorem dX6_loss_2 : decode cX6_loss 2 = .ok (.invokestatic 141, 3) := by decide +kernel
theorem dX6_loss_5 : decode cX6_loss 5 = .ok (.ifCond .ne 6, 3) := by decide +kernel
theorem dX6_loss_8 : decode cX6_loss 8 = .ok (.bipush (-2), 2) := by decide +kernel
theorem dX6_loss_10 : decode cX6_loss 10 = .ok (.ireturn, 1) := by decide +kernel
theorem dX6_loss_11 : decode cX6_loss 11 = .ok (.aload_n 0, 1) := by decide +kernel
theorem dX6_loss_12 : decode cX6_loss 12 = .ok (.getfield 35, 3) := by decide +kernel
theorem dX6_loss_15 : decode cX6_loss 15 = .ok (.invokevirtual 144, 3) := by decide +kernel
theorem dX6_loss_18 : decode cX6_loss 18 = .ok (.ifCond .eq 8, 3) := by decide +kernel
theorem dX6_loss_21 : decode cX6_loss 21 = .ok (.bipush (-4), 2) := by decide +kernel
theorem dX6_loss_23 : decode cX6_loss 23 = .ok (.goto 12, 3) := by decide +kernel
theorem dX6_loss_26 : decode cX6_loss 26 = .ok (.aload_n 0, 1) := by decide +kernel
theorem dX6_loss_27 : decode cX6_loss 27 = .ok (.getfield 35, 3) := by decide +kernel
theorem dX6_loss_30 : decode cX6_loss 30 = .ok (.iload_n 1, 1) := by decide +kernel
theorem dX6_loss_31 : decode cX6_loss 31 = .ok (.iload_n 2, 1) := by decide +kernel
theorem dX6_loss_32 : decode cX6_loss 32 = .ok (.invokevirtual 145, 3) := by decide +kernel
theorem dX6_loss_35 : decode cX6_loss 35 = .ok (.ireturn, 1) := by decide +kernel
theorem dX6_back_0 : decode cX6_back 0 = .ok (.aload_n 0, 1) := by decide +kernel
theorem dX6_back_1 : decode cX6_back 1 = .ok (.getfield 35, 3) := by decide +kernel
theorem dX6_back_4 : decode cX6_back 4 = .ok (.getfield 148, 3) := by decide +kernel
theorem dX6_back_7 : decode cX6_back 7 = .ok (.ifCond .ne 6, 3) := by decide +kernel
theorem dX6_back_10 : decode cX6_back 10 = .ok (.bipush (-3), 2) := by decide +kernel
theorem dX6_back_12 : decode cX6_back 12 = .ok (.ireturn, 1) := by decide +kernel
theorem dX6_back_13 : decode cX6_back 13 = .ok (.aload_n 0, 1) := by decide +kernel
theorem dX6_back_14 : decode cX6_back 14 = .ok (.getfield 35, 3) := by decide +kernel
theorem dX6_back_17 : decode cX6_back 17 = .ok (.dup, 1) := by decide +kernel
theorem dX6_back_18 : decode cX6_back 18 = .ok (.getfield 148, 3) := by decide +kernel
theorem dX6_back_21 : decode cX6_back 21 = .ok (.iconst 1, 1) := by decide +kernel
theorem dX6_back_22 : decode cX6_back 22 = .ok (.isub, 1) := by decide +kernel
theorem dX6_back_23 : decode cX6_back 23 = .ok (.putfield 148, 3) := by decide +kernel
theorem dX6_back_26 : decode cX6_back 26 = .ok (.aload_n 0, 1) := by decide +kernel
theorem dX6_back_27 : decode cX6_back 27 = .ok (.getfield 35, 3) := by decide +kernel
theorem dX6_back_30 : decode cX6_back 30 = .ok (.getfield 148, 3) := by decide +kernel
theorem dX6_back_33 : decode cX6_back 33 = .ok (.ireturn, 1) := by decide +kernel
theorem dX6_read_0 : decode cX6_read 0 = .ok (.aload_n 0, 1) := by decide +kernel
theorem dX6_read_1 : decode cX6_read 1 = .ok (.iload_n 1, 1) := by decide +kernel
theorem dX6_read_2 : decode cX6_read 2 = .ok (.invokevirtual 151, 3) := by decide +kernel
theorem dX6_read_5 : decode cX6_read 5 = .ok (.astore_n 2, 1) := by decide +kernel
theorem dX6_read_6 : decode cX6_read 6 = .ok (.aload_n 2, 1) := by decide +kernel
theorem dX6_read_7 : decode cX6_read 7 = .ok (.ifnonnull 6, 3) := by decide +kernel
theorem dX6_read_10 : decode cX6_read 10 = .ok (.bipush (-2), 2) := by decide +kernel
theorem dX6_read_12 : decode cX6_read 12 = .ok (.ireturn, 1) := by decide +kernel
theorem dX6_read_13 : decode cX6_read 13 = .ok (.aload_n 2, 1) := by decide +kernel
theorem dX6_read_14 : decode cX6_read 14 = .ok (.getfield 155, 3) := by decide +kernel
theorem dX6_read_17 : decode cX6_read 17 = .ok (.ifCond .eq 9, 3) := by decide +kernel
theorem dX6_read_20 : decode cX6_read 20 = .ok (.aload_n 0, 1) := by decide +kernel
theorem dX6_read_21 : decode cX6_read 21 = .ok (.iconst 1, 1) := by decide +kernel
theorem dX6_read_22 : decode cX6_read 22 = .ok (.invokevirtual 159, 3) := by decide +kernel
theorem dX6_read_25 : decode cX6_read 25 = .ok (.ireturn, 1) := by decide +kernel
theorem dX6_read_26 : decode cX6_read 26 = .ok (.iconst 0, 1) := by decide +kernel
theorem dX6_read_27 : decode cX6_read 27 = .ok (.istore_n 3, 1) := by decide +kernel
theorem dX6_read_28 : decode cX6_read 28 = .ok (.iconst 0, 1) := by decide +kernel
theorem dX6_read_29 : decode cX6_read 29 = .ok (.istore 4, 2) := by decide +kernel
theorem dX6_read_31 : decode cX6_read 31 = .ok (.iload 4, 2) := by decide +kernel
theorem dX6_read_33 : decode cX6_read 33 = .ok (.iconst 1, 1) := by decide +kernel
theorem dX6_read_34 : decode cX6_read 34 = .ok (.iadd, 1) := by decide +kernel
theorem dX6_read_35 : decode cX6_read 35 = .ok (.aload_n 2, 1) := by decide +kernel
theorem dX6_read_36 : decode cX6_read 36 = .ok (.getfield 163, 3) := by decide +kernel
theorem dX6_read_39 : decode cX6_read 39 = .ok (.if_icmp .ge 71, 3) := by decide +kernel
theorem dX6_read_42 : decode cX6_read 42 = .ok (.aload_n 0, 1) := by decide +kernel
theorem dX6_read_43 : decode cX6_read 43 = .ok (.getfield 35, 3) := by decide +kernel
theorem dX6_read_46 : decode cX6_read 46 = .ok (.invokevirtual 144, 3) := by decide +kernel
theorem dX6_read_49 : decode cX6_read 49 = .ok (.ifCond .ne 61, 3) := by decide +kernel
theorem dX6_read_52 : decode cX6_read 52 = .ok (.aload_n 2, 1) := by decide +kernel
theorem dX6_read_53 : decode cX6_read 53 = .ok (.getfield 164, 3) := by decide +kernel
theorem dX6_read_56 : decode cX6_read 56 = .ok (.iload 4, 2) := by decide +kernel
theorem dX6_read_58 : decode cX6_read 58 = .ok (.iaload, 1) := by decide +kernel
theorem dX6_read_59 : decode cX6_read 59 = .ok (.aload_n 2, 1) := by decide +kernel
theorem dX6_read_60 : decode cX6_read 60 = .ok (.getfield 164, 3) := by decide +kernel
theorem dX6_read_63 : decode cX6_read 63 = .ok (.iload 4, 2) := by decide +kernel
theorem dX6_read_65 : decode cX6_read 65 = .ok (.iconst 1, 1) := by decide +kernel
theorem dX6_read_66 : decode cX6_read 66 = .ok (.iadd, 1) := by decide +kernel
theorem dX6_read_67 : decode cX6_read 67 = .ok (.iaload, 1) := by decide +kernel
theorem dX6_read_68 : decode cX6_read 68 = .ok (.invokestatic 141, 3) := by decide +kernel
theorem dX6_read_71 : decode cX6_read 71 = .ok (.ifCond .ne 6, 3) := by decide +kernel
theorem dX6_read_74 : decode cX6_read 74 = .ok (.goto 36, 3) := by decide +kernel
theorem dX6_read_77 : decode cX6_read 77 = .ok (.aload_n 0, 1) := by decide +kernel
theorem dX6_read_78 : decode cX6_read 78 = .ok (.getfield 35, 3) := by decide +kernel
theorem dX6_read_81 : decode cX6_read 81 = .ok (.aload_n 2, 1) := by decide +kernel
theorem dX6_read_82 : decode cX6_read 82 = .ok (.getfield 164, 3) := by decide +kernel
theorem dX6_read_85 : decode cX6_read 85 = .ok (.iload 4, 2) := by decide +kernel
theorem dX6_read_87 : decode cX6_read 87 = .ok (.iaload, 1) := by decide +kernel
theorem dX6_read_88 : decode cX6_read 88 = .ok (.aload_n 2, 1) := by decide +kernel
theorem dX6_read_89 : decode cX6_read 89 = .ok (.getfield 164, 3) := by decide +kernel
theorem dX6_read_92 : decode cX6_read 92 = .ok (.iload 4, 2) := by decide +kernel
theorem dX6_read_94 : decode cX6_read 94 = .ok (.iconst 1, 1) := by decide +kernel
theorem dX6_read_95 : decode cX6_read 95 = .ok (.iadd, 1) := by decide +kernel
theorem dX6_read_96 : decode cX6_read 96 = .ok (.iaload, 1) := by decide +kernel
theorem dX6_read_97 : decode cX6_read 97 = .ok (.invokevirtual 145, 3) := by decide +kernel
theorem dX6_read_100 : decode cX6_read 100 = .ok (.pop, 1) := by decide +kernel
theorem dX6_read_101 : decode cX6_read 101 = .ok (.iinc 3 1, 3) := by decide +kernel
theorem dX6_read_104 : decode cX6_read 104 = .ok (.iinc 4 2, 3) := by decide +kernel
theorem dX6_read_107 : decode cX6_read 107 = .ok (.goto (-76), 3) := by decide +kernel
theorem dX6_read_110 : decode cX6_read 110 = .ok (.iload_n 3, 1) := by decide +kernel
theorem dX6_read_111 : decode cX6_read 111 = .ok (.ireturn, 1) := by decide +kernel
theorem dX6_bearer_0 : decode cX6_bearer 0 = .ok (.aload_n 0, 1) := by decide +kernel
theorem dX6_bearer_1 : decode cX6_bearer 1 = .ok (.getfield 53, 3) := by decide +kernel
theorem dX6_bearer_4 : decode cX6_bearer 4 = .ok (.iload_n 1, 1) := by decide +kernel
theorem dX6_bearer_5 : decode cX6_bearer 5 = .ok (.invokevirtual 111, 3) := by decide +kernel
theorem dX6_bearer_8 : decode cX6_bearer 8 = .ok (.ifCond .ne 6, 3) := by decide +kernel
theorem dX6_bearer_11 : decode cX6_bearer 11 = .ok (.bipush (-2), 2) := by decide +kernel
theorem dX6_bearer_13 : decode cX6_bearer 13 = .ok (.ireturn, 1) := by decide +kernel
theorem dX6_bearer_14 : decode cX6_bearer 14 = .ok (.iload_n 2, 1) := by decide +kernel
theorem dX6_bearer_15 : decode cX6_bearer 15 = .ok (.tableswitch 63 0 2 #[25, 35, 44], 25) := by decide +kernel
theorem dX6_bearer_40 : decode cX6_bearer 40 = .ok (.aload_n 0, 1) := by decide +kernel
theorem dX6_bearer_41 : decode cX6_bearer 41 = .ok (.getfield 53, 3) := by decide +kernel
theorem dX6_bearer_44 : decode cX6_bearer 44 = .ok (.getfield 167, 3) := by decide +kernel
theorem dX6_bearer_47 : decode cX6_bearer 47 = .ok (.iload_n 1, 1) := by decide +kernel
theorem dX6_bearer_48 : decode cX6_bearer 48 = .ok (.iaload, 1) := by decide +kernel
theorem dX6_bearer_49 : decode cX6_bearer 49 = .ok (.ireturn, 1) := by decide +kernel
theorem dX6_bearer_50 : decode cX6_bearer 50 = .ok (.aload_n 0, 1) := by decide +kernel
theorem dX6_bearer_51 : decode cX6_bearer 51 = .ok (.getfield 53, 3) := by decide +kernel
theorem dX6_bearer_54 : decode cX6_bearer 54 = .ok (.iload_n 1, 1) := by decide +kernel
theorem dX6_bearer_55 : decode cX6_bearer 55 = .ok (.invokevirtual 170, 3) := by decide +kernel
theorem dX6_bearer_58 : decode cX6_bearer 58 = .ok (.ireturn, 1) := by decide +kernel
theorem dX6_bearer_59 : decode cX6_bearer 59 = .ok (.aload_n 0, 1) := by decide +kernel
theorem dX6_bearer_60 : decode cX6_bearer 60 = .ok (.getfield 53, 3) := by decide +kernel
theorem dX6_bearer_63 : decode cX6_bearer 63 = .ok (.getfield 167, 3) := by decide +kernel
theorem dX6_bearer_66 : decode cX6_bearer 66 = .ok (.iload_n 1, 1) := by decide +kernel
theorem dX6_bearer_67 : decode cX6_bearer 67 = .ok (.iaload, 1) := by decide +kernel
theorem dX6_bearer_68 : decode cX6_bearer 68 = .ok (.iconst (-1), 1) := by decide +kernel
theorem dX6_bearer_69 : decode cX6_bearer 69 = .ok (.if_icmp .ne 7, 3) := by decide +kernel
theorem dX6_bearer_72 : decode cX6_bearer 72 = .ok (.iconst 1, 1) := by decide +kernel
theorem dX6_bearer_73 : decode cX6_bearer 73 = .ok (.goto 4, 3) := by decide +kernel
theorem dX6_bearer_76 : decode cX6_bearer 76 = .ok (.iconst 0, 1) := by decide +kernel
theorem dX6_bearer_77 : decode cX6_bearer 77 = .ok (.ireturn, 1) := by decide +kernel
theorem dX6_bearer_78 : decode cX6_bearer 78 = .ok (.bipush (-2), 2) := by decide +kernel
theorem dX6_bearer_80 : decode cX6_bearer 80 = .ok (.ireturn, 1) := by decide +kernel
theorem dX6_borne_0 : decode cX6_borne 0 = .ok (.aload_n 0, 1) := by decide +kernel
theorem dX6_borne_1 : decode cX6_borne 1 = .ok (.getfield 53, 3) := by decide +kernel
theorem dX6_borne_4 : decode cX6_borne 4 = .ok (.iload_n 1, 1) := by decide +kernel
theorem dX6_borne_5 : decode cX6_borne 5 = .ok (.invokevirtual 100, 3) := by decide +kernel
theorem dX6_borne_8 : decode cX6_borne 8 = .ok (.ifCond .eq 26, 3) := by decide +kernel
theorem dX6_borne_11 : decode cX6_borne 11 = .ok (.aload_n 0, 1) := by decide +kernel
theorem dX6_borne_12 : decode cX6_borne 12 = .ok (.getfield 53, 3) := by decide +kernel
theorem dX6_borne_15 : decode cX6_borne 15 = .ok (.iload_n 2, 1) := by decide +kernel
theorem dX6_borne_16 : decode cX6_borne 16 = .ok (.invokevirtual 111, 3) := by decide +kernel
theorem dX6_borne_19 : decode cX6_borne 19 = .ok (.ifCond .eq 15, 3) := by decide +kernel
theorem dX6_borne_22 : decode cX6_borne 22 = .ok (.aload_n 0, 1) := by decide +kernel
theorem dX6_borne_23 : decode cX6_borne 23 = .ok (.getfield 53, 3) := by decide +kernel
theorem dX6_borne_26 : decode cX6_borne 26 = .ok (.iload_n 1, 1) := by decide +kernel
theorem dX6_borne_27 : decode cX6_borne 27 = .ok (.iload_n 2, 1) := by decide +kernel
theorem dX6_borne_28 : decode cX6_borne 28 = .ok (.invokevirtual 173, 3) := by decide +kernel
theorem dX6_borne_31 : decode cX6_borne 31 = .ok (.goto 5, 3) := by decide +kernel
theorem dX6_borne_34 : decode cX6_borne 34 = .ok (.bipush (-2), 2) := by decide +kernel
theorem dX6_borne_36 : decode cX6_borne 36 = .ok (.ireturn, 1) := by decide +kernel
theorem dX6_unborne_0 : decode cX6_unborne 0 = .ok (.aload_n 0, 1) := by decide +kernel
theorem dX6_unborne_1 : decode cX6_unborne 1 = .ok (.getfield 53, 3) := by decide +kernel
theorem dX6_unborne_4 : decode cX6_unborne 4 = .ok (.iload_n 1, 1) := by decide +kernel
theorem dX6_unborne_5 : decode cX6_unborne 5 = .ok (.invokevirtual 100, 3) := by decide +kernel
theorem dX6_unborne_8 : decode cX6_unborne 8 = .ok (.ifCond .eq 15, 3) := by decide +kernel
theorem dX6_unborne_11 : decode cX6_unborne 11 = .ok (.aload_n 0, 1) := by decide +kernel
theorem dX6_unborne_12 : decode cX6_unborne 12 = .ok (.getfield 53, 3) := by decide +kernel
theorem dX6_unborne_15 : decode cX6_unborne 15 = .ok (.iload_n 1, 1) := by decide +kernel
theorem dX6_unborne_16 : decode cX6_unborne 16 = .ok (.iconst (-1), 1) := by decide +kernel
theorem dX6_unborne_17 : decode cX6_unborne 17 = .ok (.invokevirtual 173, 3) := by decide +kernel
theorem dX6_unborne_20 : decode cX6_unborne 20 = .ok (.goto 5, 3) := by decide +kernel
theorem dX6_unborne_23 : decode cX6_unborne 23 = .ok (.bipush (-2), 2) := by decide +kernel
theorem dX6_unborne_25 : decode cX6_unborne 25 = .ok (.ireturn, 1) := by decide +kernel
theorem dX6_left_0 : decode cX6_left 0 = .ok (.iload_n 1, 1) := by decide +kernel
theorem dX6_left_1 : decode cX6_left 1 = .ok (.invokestatic 176, 3) := by decide +kernel
theorem dX6_left_4 : decode cX6_left 4 = .ok (.ifCond .eq 14, 3) := by decide +kernel
theorem dX6_left_7 : decode cX6_left 7 = .ok (.aload_n 0, 1) := by decide +kernel
theorem dX6_left_8 : decode cX6_left 8 = .ok (.getfield 53, 3) := by decide +kernel
theorem dX6_left_11 : decode cX6_left 11 = .ok (.iload_n 2, 1) := by decide +kernel
theorem dX6_left_12 : decode cX6_left 12 = .ok (.invokevirtual 111, 3) := by decide +kernel
theorem dX6_left_15 : decode cX6_left 15 = .ok (.ifCond .ne 6, 3) := by decide +kernel
theorem dX6_left_18 : decode cX6_left 18 = .ok (.bipush (-2), 2) := by decide +kernel
theorem dX6_left_20 : decode cX6_left 20 = .ok (.ireturn, 1) := by decide +kernel
theorem dX6_left_21 : decode cX6_left 21 = .ok (.aload_n 0, 1) := by decide +kernel
theorem dX6_left_22 : decode cX6_left 22 = .ok (.getfield 57, 3) := by decide +kernel
theorem dX6_left_25 : decode cX6_left 25 = .ok (.aload_n 0, 1) := by decide +kernel
theorem dX6_left_26 : decode cX6_left 26 = .ok (.getfield 35, 3) := by decide +kernel
theorem dX6_left_29 : decode cX6_left 29 = .ok (.iload_n 1, 1) := by decide +kernel
theorem dX6_left_30 : decode cX6_left 30 = .ok (.invokevirtual 179, 3) := by decide +kernel
theorem dX6_left_33 : decode cX6_left 33 = .ok (.aload_n 0, 1) := by decide +kernel
theorem dX6_left_34 : decode cX6_left 34 = .ok (.getfield 57, 3) := by decide +kernel
theorem dX6_left_37 : decode cX6_left 37 = .ok (.getfield 183, 3) := by decide +kernel
theorem dX6_left_40 : decode cX6_left 40 = .ok (.iload_n 2, 1) := by decide +kernel
theorem dX6_left_41 : decode cX6_left 41 = .ok (.iaload, 1) := by decide +kernel
theorem dX6_left_42 : decode cX6_left 42 = .ok (.ireturn, 1) := by decide +kernel
theorem dX6_behind_0 : decode cX6_behind 0 = .ok (.iload_n 1, 1) := by decide +kernel
theorem dX6_behind_1 : decode cX6_behind 1 = .ok (.invokestatic 176, 3) := by decide +kernel
theorem dX6_behind_4 : decode cX6_behind 4 = .ok (.ifCond .eq 11, 3) := by decide +kernel
theorem dX6_behind_7 : decode cX6_behind 7 = .ok (.iload_n 2, 1) := by decide +kernel
theorem dX6_behind_8 : decode cX6_behind 8 = .ok (.iconst 1, 1) := by decide +kernel
theorem dX6_behind_9 : decode cX6_behind 9 = .ok (.invokestatic 78, 3) := by decide +kernel
theorem dX6_behind_12 : decode cX6_behind 12 = .ok (.ifCond .ne 6, 3) := by decide +kernel
theorem dX6_behind_15 : decode cX6_behind 15 = .ok (.bipush (-2), 2) := by decide +kernel
theorem dX6_behind_17 : decode cX6_behind 17 = .ok (.ireturn, 1) := by decide +kernel
theorem dX6_behind_18 : decode cX6_behind 18 = .ok (.aload_n 0, 1) := by decide +kernel
theorem dX6_behind_19 : decode cX6_behind 19 = .ok (.getfield 57, 3) := by decide +kernel
theorem dX6_behind_22 : decode cX6_behind 22 = .ok (.aload_n 0, 1) := by decide +kernel
theorem dX6_behind_23 : decode cX6_behind 23 = .ok (.getfield 35, 3) := by decide +kernel
theorem dX6_behind_26 : decode cX6_behind 26 = .ok (.iload_n 1, 1) := by decide +kernel
theorem dX6_behind_27 : decode cX6_behind 27 = .ok (.invokevirtual 179, 3) := by decide +kernel
theorem dX6_behind_30 : decode cX6_behind 30 = .ok (.iload_n 2, 1) := by decide +kernel
theorem dX6_behind_31 : decode cX6_behind 31 = .ok (.ifCond .ne 13, 3) := by decide +kernel
theorem dX6_behind_34 : decode cX6_behind 34 = .ok (.aload_n 0, 1) := by decide +kernel
theorem dX6_behind_35 : decode cX6_behind 35 = .ok (.getfield 57, 3) := by decide +kernel
theorem dX6_behind_38 : decode cX6_behind 38 = .ok (.getfield 186, 3) := by decide +kernel
theorem dX6_behind_41 : decode cX6_behind 41 = .ok (.goto 10, 3) := by decide +kernel
theorem dX6_behind_44 : decode cX6_behind 44 = .ok (.aload_n 0, 1) := by decide +kernel
theorem dX6_behind_45 : decode cX6_behind 45 = .ok (.getfield 57, 3) := by decide +kernel
theorem dX6_behind_48 : decode cX6_behind 48 = .ok (.getfield 189, 3) := by decide +kernel
theorem dX6_behind_51 : decode cX6_behind 51 = .ok (.ireturn, 1) := by decide +kernel
theorem dX6_paid_0 : decode cX6_paid 0 = .ok (.iload_n 1, 1) := by decide +kernel
theorem dX6_paid_1 : decode cX6_paid 1 = .ok (.invokestatic 176, 3) := by decide +kernel
theorem dX6_paid_4 : decode cX6_paid 4 = .ok (.ifCond .eq 14, 3) := by decide +kernel
theorem dX6_paid_7 : decode cX6_paid 7 = .ok (.aload_n 0, 1) := by decide +kernel
theorem dX6_paid_8 : decode cX6_paid 8 = .ok (.getfield 53, 3) := by decide +kernel
theorem dX6_paid_11 : decode cX6_paid 11 = .ok (.iload_n 2, 1) := by decide +kernel
theorem dX6_paid_12 : decode cX6_paid 12 = .ok (.invokevirtual 100, 3) := by decide +kernel
theorem dX6_paid_15 : decode cX6_paid 15 = .ok (.ifCond .ne 6, 3) := by decide +kernel
theorem dX6_paid_18 : decode cX6_paid 18 = .ok (.bipush (-2), 2) := by decide +kernel
theorem dX6_paid_20 : decode cX6_paid 20 = .ok (.ireturn, 1) := by decide +kernel
theorem dX6_paid_21 : decode cX6_paid 21 = .ok (.aload_n 0, 1) := by decide +kernel
theorem dX6_paid_22 : decode cX6_paid 22 = .ok (.getfield 57, 3) := by decide +kernel
theorem dX6_paid_25 : decode cX6_paid 25 = .ok (.aload_n 0, 1) := by decide +kernel
theorem dX6_paid_26 : decode cX6_paid 26 = .ok (.getfield 35, 3) := by decide +kernel
theorem dX6_paid_29 : decode cX6_paid 29 = .ok (.iload_n 1, 1) := by decide +kernel
theorem dX6_paid_30 : decode cX6_paid 30 = .ok (.invokevirtual 179, 3) := by decide +kernel
theorem dX6_paid_33 : decode cX6_paid 33 = .ok (.aload_n 0, 1) := by decide +kernel
theorem dX6_paid_34 : decode cX6_paid 34 = .ok (.getfield 57, 3) := by decide +kernel
theorem dX6_paid_37 : decode cX6_paid 37 = .ok (.getfield 191, 3) := by decide +kernel
theorem dX6_paid_40 : decode cX6_paid 40 = .ok (.iload_n 2, 1) := by decide +kernel
theorem dX6_paid_41 : decode cX6_paid 41 = .ok (.iaload, 1) := by decide +kernel
theorem dX6_paid_42 : decode cX6_paid 42 = .ok (.ireturn, 1) := by decide +kernel
theorem dX6_first_0 : decode cX6_first 0 = .ok (.iload_n 1, 1) := by decide +kernel
theorem dX6_first_1 : decode cX6_first 1 = .ok (.iconst 1, 1) := by decide +kernel
theorem dX6_first_2 : decode cX6_first 2 = .ok (.invokestatic 78, 3) := by decide +kernel
theorem dX6_first_5 : decode cX6_first 5 = .ok (.ifCond .ne 6, 3) := by decide +kernel
theorem dX6_first_8 : decode cX6_first 8 = .ok (.bipush (-2), 2) := by decide +kernel
theorem dX6_first_10 : decode cX6_first 10 = .ok (.ireturn, 1) := by decide +kernel
theorem dX6_first_11 : decode cX6_first 11 = .ok (.aload_n 0, 1) := by decide +kernel
theorem dX6_first_12 : decode cX6_first 12 = .ok (.getfield 57, 3) := by decide +kernel
theorem dX6_first_15 : decode cX6_first 15 = .ok (.aload_n 0, 1) := by decide +kernel
theorem dX6_first_16 : decode cX6_first 16 = .ok (.getfield 35, 3) := by decide +kernel
theorem dX6_first_19 : decode cX6_first 19 = .ok (.bipush 29, 2) := by decide +kernel
theorem dX6_first_21 : decode cX6_first 21 = .ok (.invokevirtual 179, 3) := by decide +kernel
theorem dX6_first_24 : decode cX6_first 24 = .ok (.iload_n 1, 1) := by decide +kernel
theorem dX6_first_25 : decode cX6_first 25 = .ok (.ifCond .ne 13, 3) := by decide +kernel
theorem dX6_first_28 : decode cX6_first 28 = .ok (.aload_n 0, 1) := by decide +kernel
theorem dX6_first_29 : decode cX6_first 29 = .ok (.getfield 57, 3) := by decide +kernel
theorem dX6_first_32 : decode cX6_first 32 = .ok (.getfield 194, 3) := by decide +kernel
theorem dX6_first_35 : decode cX6_first 35 = .ok (.goto 10, 3) := by decide +kernel
theorem dX6_first_38 : decode cX6_first 38 = .ok (.aload_n 0, 1) := by decide +kernel
theorem dX6_first_39 : decode cX6_first 39 = .ok (.getfield 57, 3) := by decide +kernel
theorem dX6_first_42 : decode cX6_first 42 = .ok (.getfield 197, 3) := by decide +kernel
theorem dX6_first_45 : decode cX6_first 45 = .ok (.ireturn, 1) := by decide +kernel
theorem dX6_safe_0 : decode cX6_safe 0 = .ok (.iconst 0, 1) := by decide +kernel
theorem dX6_safe_1 : decode cX6_safe 1 = .ok (.istore_n 1, 1) := by decide +kernel
theorem dX6_safe_2 : decode cX6_safe 2 = .ok (.iconst 0, 1) := by decide +kernel
theorem dX6_safe_3 : decode cX6_safe 3 = .ok (.istore_n 2, 1) := by decide +kernel
theorem dX6_safe_4 : decode cX6_safe 4 = .ok (.iload_n 2, 1) := by decide +kernel
theorem dX6_safe_5 : decode cX6_safe 5 = .ok (.aload_n 0, 1) := by decide +kernel
theorem dX6_safe_6 : decode cX6_safe 6 = .ok (.getfield 53, 3) := by decide +kernel
theorem dX6_safe_9 : decode cX6_safe 9 = .ok (.getfield 200, 3) := by decide +kernel
theorem dX6_safe_12 : decode cX6_safe 12 = .ok (.if_icmp .ge 37, 3) := by decide +kernel
theorem dX6_safe_15 : decode cX6_safe 15 = .ok (.aload_n 0, 1) := by decide +kernel
theorem dX6_safe_16 : decode cX6_safe 16 = .ok (.getfield 57, 3) := by decide +kernel
theorem dX6_safe_19 : decode cX6_safe 19 = .ok (.iload_n 2, 1) := by decide +kernel
theorem dX6_safe_20 : decode cX6_safe 20 = .ok (.sipush 255, 3) := by decide +kernel
theorem dX6_safe_23 : decode cX6_safe 23 = .ok (.invokevirtual 203, 3) := by decide +kernel
theorem dX6_safe_26 : decode cX6_safe 26 = .ok (.pop, 1) := by decide +kernel
theorem dX6_safe_27 : decode cX6_safe 27 = .ok (.aload_n 0, 1) := by decide +kernel
theorem dX6_safe_28 : decode cX6_safe 28 = .ok (.getfield 57, 3) := by decide +kernel
theorem dX6_safe_31 : decode cX6_safe 31 = .ok (.getfield 186, 3) := by decide +kernel
theorem dX6_safe_34 : decode cX6_safe 34 = .ok (.ifCond .ne 9, 3) := by decide +kernel
theorem dX6_safe_37 : decode cX6_safe 37 = .ok (.iload_n 1, 1) := by decide +kernel
theorem dX6_safe_38 : decode cX6_safe 38 = .ok (.iconst 1, 1) := by decide +kernel
theorem dX6_safe_39 : decode cX6_safe 39 = .ok (.iload_n 2, 1) := by decide +kernel
theorem dX6_safe_40 : decode cX6_safe 40 = .ok (.ishl, 1) := by decide +kernel
theorem dX6_safe_41 : decode cX6_safe 41 = .ok (.ior, 1) := by decide +kernel
theorem dX6_safe_42 : decode cX6_safe 42 = .ok (.istore_n 1, 1) := by decide +kernel
theorem dX6_safe_43 : decode cX6_safe 43 = .ok (.iinc 2 1, 3) := by decide +kernel
theorem dX6_safe_46 : decode cX6_safe 46 = .ok (.goto (-42), 3) := by decide +kernel
theorem dX6_safe_49 : decode cX6_safe 49 = .ok (.iload_n 1, 1) := by decide +kernel
theorem dX6_safe_50 : decode cX6_safe 50 = .ok (.ireturn, 1) := by decide +kernel
theorem dX6_take_0 : decode cX6_take 0 = .ok (.aload_n 0, 1) := by decide +kernel
theorem dX6_take_1 : decode cX6_take 1 = .ok (.getfield 53, 3) := by decide +kernel
theorem dX6_take_4 : decode cX6_take 4 = .ok (.iload_n 1, 1) := by decide +kernel
theorem dX6_take_5 : decode cX6_take 5 = .ok (.invokevirtual 100, 3) := by decide +kernel
theorem dX6_take_8 : decode cX6_take 8 = .ok (.ifCond .ne 6, 3) := by decide +kernel
theorem dX6_take_11 : decode cX6_take 11 = .ok (.bipush (-2), 2) := by decide +kernel
theorem dX6_take_13 : decode cX6_take 13 = .ok (.ireturn, 1) := by decide +kernel
theorem dX6_take_14 : decode cX6_take 14 = .ok (.iconst (-1), 1) := by decide +kernel
theorem dX6_take_15 : decode cX6_take 15 = .ok (.istore_n 2, 1) := by decide +kernel
theorem dX6_take_16 : decode cX6_take 16 = .ok (.iconst 0, 1) := by decide +kernel
theorem dX6_take_17 : decode cX6_take 17 = .ok (.istore_n 3, 1) := by decide +kernel
theorem dX6_take_18 : decode cX6_take 18 = .ok (.iconst 1, 1) := by decide +kernel
theorem dX6_take_19 : decode cX6_take 19 = .ok (.istore 4, 2) := by decide +kernel
theorem dX6_take_21 : decode cX6_take 21 = .ok (.iload 4, 2) := by decide +kernel
theorem dX6_take_23 : decode cX6_take 23 = .ok (.iconst 1, 1) := by decide +kernel
theorem dX6_take_24 : decode cX6_take 24 = .ok (.aload_n 0, 1) := by decide +kernel
theorem dX6_take_25 : decode cX6_take 25 = .ok (.getfield 53, 3) := by decide +kernel
theorem dX6_take_28 : decode cX6_take 28 = .ok (.getfield 206, 3) := by decide +kernel
theorem dX6_take_31 : decode cX6_take 31 = .ok (.ishl, 1) := by decide +kernel
theorem dX6_take_32 : decode cX6_take 32 = .ok (.if_icmp .ge 90, 3) := by decide +kernel
theorem dX6_take_35 : decode cX6_take 35 = .ok (.aload_n 0, 1) := by decide +kernel
theorem dX6_take_36 : decode cX6_take 36 = .ok (.getfield 53, 3) := by decide +kernel
theorem dX6_take_39 : decode cX6_take 39 = .ok (.iload 4, 2) := by decide +kernel
theorem dX6_take_41 : decode cX6_take 41 = .ok (.invokevirtual 209, 3) := by decide +kernel
theorem dX6_take_44 : decode cX6_take 44 = .ok (.istore 5, 2) := by decide +kernel
theorem dX6_take_46 : decode cX6_take 46 = .ok (.iload 4, 2) := by decide +kernel
theorem dX6_take_48 : decode cX6_take 48 = .ok (.aload_n 0, 1) := by decide +kernel
theorem dX6_take_49 : decode cX6_take 49 = .ok (.getfield 138, 3) := by decide +kernel
theorem dX6_take_52 : decode cX6_take 52 = .ok (.iand, 1) := by decide +kernel
theorem dX6_take_53 : decode cX6_take 53 = .ok (.ifCond .ne 63, 3) := by decide +kernel
theorem dX6_take_56 : decode cX6_take 56 = .ok (.iload 5, 2) := by decide +kernel
theorem dX6_take_58 : decode cX6_take 58 = .ok (.aload_n 0, 1) := by decide +kernel
theorem dX6_take_59 : decode cX6_take 59 = .ok (.getfield 53, 3) := by decide +kernel
theorem dX6_take_62 : decode cX6_take 62 = .ok (.getfield 104, 3) := by decide +kernel
theorem dX6_take_65 : decode cX6_take 65 = .ok (.iload_n 1, 1) := by decide +kernel
theorem dX6_take_66 : decode cX6_take 66 = .ok (.iaload, 1) := by decide +kernel
theorem dX6_take_67 : decode cX6_take 67 = .ok (.if_icmp .ge 6, 3) := by decide +kernel
theorem dX6_take_70 : decode cX6_take 70 = .ok (.goto 46, 3) := by decide +kernel
theorem dX6_take_73 : decode cX6_take 73 = .ok (.iload_n 2, 1) := by decide +kernel
theorem dX6_take_74 : decode cX6_take 74 = .ok (.iconst (-1), 1) := by decide +kernel
theorem dX6_take_75 : decode cX6_take 75 = .ok (.if_icmp .ne 7, 3) := by decide +kernel
theorem dX6_take_78 : decode cX6_take 78 = .ok (.iconst (-1), 1) := by decide +kernel
theorem dX6_take_79 : decode cX6_take 79 = .ok (.goto 13, 3) := by decide +kernel
theorem dX6_take_82 : decode cX6_take 82 = .ok (.iload 4, 2) := by decide +kernel
theorem dX6_take_84 : decode cX6_take 84 = .ok (.invokestatic 212, 3) := by decide +kernel
theorem dX6_take_87 : decode cX6_take 87 = .ok (.iload_n 2, 1) := by decide +kernel
theorem dX6_take_88 : decode cX6_take 88 = .ok (.invokestatic 212, 3) := by decide +kernel
theorem dX6_take_91 : decode cX6_take 91 = .ok (.isub, 1) := by decide +kernel
theorem dX6_take_92 : decode cX6_take 92 = .ok (.istore 6, 2) := by decide +kernel
theorem dX6_take_94 : decode cX6_take 94 = .ok (.iload 6, 2) := by decide +kernel
theorem dX6_take_96 : decode cX6_take 96 = .ok (.ifCond .lt 14, 3) := by decide +kernel
theorem dX6_take_99 : decode cX6_take 99 = .ok (.iload 6, 2) := by decide +kernel
theorem dX6_take_101 : decode cX6_take 101 = .ok (.ifCond .ne 15, 3) := by decide +kernel
theorem dX6_take_104 : decode cX6_take 104 = .ok (.iload 5, 2) := by decide +kernel
theorem dX6_take_106 : decode cX6_take 106 = .ok (.iload_n 3, 1) := by decide +kernel
theorem dX6_take_107 : decode cX6_take 107 = .ok (.if_icmp .ge 9, 3) := by decide +kernel
theorem dX6_take_110 : decode cX6_take 110 = .ok (.iload 4, 2) := by decide +kernel
theorem dX6_take_112 : decode cX6_take 112 = .ok (.istore_n 2, 1) := by decide +kernel
theorem dX6_take_113 : decode cX6_take 113 = .ok (.iload 5, 2) := by decide +kernel
theorem dX6_take_115 : decode cX6_take 115 = .ok (.istore_n 3, 1) := by decide +kernel
theorem dX6_take_116 : decode cX6_take 116 = .ok (.iinc 4 1, 3) := by decide +kernel
theorem dX6_take_119 : decode cX6_take 119 = .ok (.goto (-98), 3) := by decide +kernel
theorem dX6_take_122 : decode cX6_take 122 = .ok (.iload_n 2, 1) := by decide +kernel
theorem dX6_take_123 : decode cX6_take 123 = .ok (.ireturn, 1) := by decide +kernel
theorem dX6_strike_0 : decode cX6_strike 0 = .ok (.aload_n 0, 1) := by decide +kernel
theorem dX6_strike_1 : decode cX6_strike 1 = .ok (.getfield 53, 3) := by decide +kernel
theorem dX6_strike_4 : decode cX6_strike 4 = .ok (.iload_n 1, 1) := by decide +kernel
theorem dX6_strike_5 : decode cX6_strike 5 = .ok (.invokevirtual 111, 3) := by decide +kernel
theorem dX6_strike_8 : decode cX6_strike 8 = .ok (.ifCond .eq 14, 3) := by decide +kernel
theorem dX6_strike_11 : decode cX6_strike 11 = .ok (.aload_n 0, 1) := by decide +kernel
theorem dX6_strike_12 : decode cX6_strike 12 = .ok (.getfield 53, 3) := by decide +kernel
theorem dX6_strike_15 : decode cX6_strike 15 = .ok (.iload_n 2, 1) := by decide +kernel
theorem dX6_strike_16 : decode cX6_strike 16 = .ok (.invokevirtual 111, 3) := by decide +kernel
theorem dX6_strike_19 : decode cX6_strike 19 = .ok (.ifCond .ne 7, 3) := by decide +kernel
theorem dX6_strike_22 : decode cX6_strike 22 = .ok (.sipush (-1002), 3) := by decide +kernel
theorem dX6_strike_25 : decode cX6_strike 25 = .ok (.ireturn, 1) := by decide +kernel
theorem dX6_strike_26 : decode cX6_strike 26 = .ok (.aload_n 0, 1) := by decide +kernel
theorem dX6_strike_27 : decode cX6_strike 27 = .ok (.getfield 53, 3) := by decide +kernel
theorem dX6_strike_30 : decode cX6_strike 30 = .ok (.iload_n 1, 1) := by decide +kernel
theorem dX6_strike_31 : decode cX6_strike 31 = .ok (.invokevirtual 217, 3) := by decide +kernel
theorem dX6_strike_34 : decode cX6_strike 34 = .ok (.istore_n 3, 1) := by decide +kernel
theorem dX6_strike_35 : decode cX6_strike 35 = .ok (.aload_n 0, 1) := by decide +kernel
theorem dX6_strike_36 : decode cX6_strike 36 = .ok (.getfield 53, 3) := by decide +kernel
theorem dX6_strike_39 : decode cX6_strike 39 = .ok (.aload_n 0, 1) := by decide +kernel
theorem dX6_strike_40 : decode cX6_strike 40 = .ok (.getfield 138, 3) := by decide +kernel
theorem dX6_strike_43 : decode cX6_strike 43 = .ok (.iconst 1, 1) := by decide +kernel
theorem dX6_strike_44 : decode cX6_strike 44 = .ok (.iload_n 2, 1) := by decide +kernel
theorem dX6_strike_45 : decode cX6_strike 45 = .ok (.ishl, 1) := by decide +kernel
theorem dX6_strike_46 : decode cX6_strike 46 = .ok (.ior, 1) := by decide +kernel
theorem dX6_strike_47 : decode cX6_strike 47 = .ok (.invokevirtual 220, 3) := by decide +kernel
theorem dX6_strike_50 : decode cX6_strike 50 = .ok (.aload_n 0, 1) := by decide +kernel
theorem dX6_strike_51 : decode cX6_strike 51 = .ok (.getfield 53, 3) := by decide +kernel
theorem dX6_strike_54 : decode cX6_strike 54 = .ok (.iload_n 1, 1) := by decide +kernel
theorem dX6_strike_55 : decode cX6_strike 55 = .ok (.invokevirtual 217, 3) := by decide +kernel
theorem dX6_strike_58 : decode cX6_strike 58 = .ok (.istore 4, 2) := by decide +kernel
theorem dX6_strike_60 : decode cX6_strike 60 = .ok (.aload_n 0, 1) := by decide +kernel
theorem dX6_strike_61 : decode cX6_strike 61 = .ok (.getfield 53, 3) := by decide +kernel
theorem dX6_strike_64 : decode cX6_strike 64 = .ok (.aload_n 0, 1) := by decide +kernel
theorem dX6_strike_65 : decode cX6_strike 65 = .ok (.getfield 138, 3) := by decide +kernel
theorem dX6_strike_68 : decode cX6_strike 68 = .ok (.invokevirtual 220, 3) := by decide +kernel
theorem dX6_strike_71 : decode cX6_strike 71 = .ok (.iload 4, 2) := by decide +kernel
theorem dX6_strike_73 : decode cX6_strike 73 = .ok (.iload_n 3, 1) := by decide +kernel
theorem dX6_strike_74 : decode cX6_strike 74 = .ok (.isub, 1) := by decide +kernel
theorem dX6_strike_75 : decode cX6_strike 75 = .ok (.ireturn, 1) := by decide +kernel
theorem dX6_seen_0 : decode cX6_seen 0 = .ok (.iload_n 1, 1) := by decide +kernel
theorem dX6_seen_1 : decode cX6_seen 1 = .ok (.iconst 5, 1) := by decide +kernel
theorem dX6_seen_2 : decode cX6_seen 2 = .ok (.invokestatic 78, 3) := by decide +kernel
theorem dX6_seen_5 : decode cX6_seen 5 = .ok (.ifCond .eq 13, 3) := by decide +kernel
theorem dX6_seen_8 : decode cX6_seen 8 = .ok (.iload_n 2, 1) := by decide +kernel
theorem dX6_seen_9 : decode cX6_seen 9 = .ok (.sipush 999, 3) := by decide +kernel
theorem dX6_seen_12 : decode cX6_seen 12 = .ok (.invokestatic 78, 3) := by decide +kernel
theorem dX6_seen_15 : decode cX6_seen 15 = .ok (.ifCond .ne 6, 3) := by decide +kernel
theorem dX6_seen_18 : decode cX6_seen 18 = .ok (.bipush (-2), 2) := by decide +kernel
theorem dX6_seen_20 : decode cX6_seen 20 = .ok (.ireturn, 1) := by decide +kernel
theorem dX6_seen_21 : decode cX6_seen 21 = .ok (.aload_n 0, 1) := by decide +kernel
theorem dX6_seen_22 : decode cX6_seen 22 = .ok (.getfield 61, 3) := by decide +kernel
theorem dX6_seen_25 : decode cX6_seen 25 = .ok (.invokevirtual 144, 3) := by decide +kernel
theorem dX6_seen_28 : decode cX6_seen 28 = .ok (.ifCond .eq 8, 3) := by decide +kernel
theorem dX6_seen_31 : decode cX6_seen 31 = .ok (.bipush (-4), 2) := by decide +kernel
theorem dX6_seen_33 : decode cX6_seen 33 = .ok (.goto 12, 3) := by decide +kernel
theorem dX6_seen_36 : decode cX6_seen 36 = .ok (.aload_n 0, 1) := by decide +kernel
theorem dX6_seen_37 : decode cX6_seen 37 = .ok (.getfield 61, 3) := by decide +kernel
theorem dX6_seen_40 : decode cX6_seen 40 = .ok (.iload_n 1, 1) := by decide +kernel
theorem dX6_seen_41 : decode cX6_seen 41 = .ok (.iload_n 2, 1) := by decide +kernel
theorem dX6_seen_42 : decode cX6_seen 42 = .ok (.invokevirtual 145, 3) := by decide +kernel
theorem dX6_seen_45 : decode cX6_seen 45 = .ok (.ireturn, 1) := by decide +kernel
theorem dX6_forget_0 : decode cX6_forget 0 = .ok (.aload_n 0, 1) := by decide +kernel
theorem dX6_forget_1 : decode cX6_forget 1 = .ok (.getfield 61, 3) := by decide +kernel
theorem dX6_forget_4 : decode cX6_forget 4 = .ok (.getfield 148, 3) := by decide +kernel
theorem dX6_forget_7 : decode cX6_forget 7 = .ok (.istore_n 1, 1) := by decide +kernel
theorem dX6_forget_8 : decode cX6_forget 8 = .ok (.aload_n 0, 1) := by decide +kernel
theorem dX6_forget_9 : decode cX6_forget 9 = .ok (.getfield 61, 3) := by decide +kernel
theorem dX6_forget_12 : decode cX6_forget 12 = .ok (.iconst 0, 1) := by decide +kernel
theorem dX6_forget_13 : decode cX6_forget 13 = .ok (.putfield 148, 3) := by decide +kernel
theorem dX6_forget_16 : decode cX6_forget 16 = .ok (.iload_n 1, 1) := by decide +kernel
theorem dX6_forget_17 : decode cX6_forget 17 = .ok (.ireturn, 1) := by decide +kernel
theorem dX6_sound_0 : decode cX6_sound 0 = .ok (.iload_n 1, 1) := by decide +kernel
theorem dX6_sound_1 : decode cX6_sound 1 = .ok (.iconst 1, 1) := by decide +kernel
theorem dX6_sound_2 : decode cX6_sound 2 = .ok (.invokestatic 78, 3) := by decide +kernel
theorem dX6_sound_5 : decode cX6_sound 5 = .ok (.ifCond .ne 6, 3) := by decide +kernel
theorem dX6_sound_8 : decode cX6_sound 8 = .ok (.bipush (-2), 2) := by decide +kernel
theorem dX6_sound_10 : decode cX6_sound 10 = .ok (.ireturn, 1) := by decide +kernel
theorem dX6_sound_11 : decode cX6_sound 11 = .ok (.aload_n 0, 1) := by decide +kernel
theorem dX6_sound_12 : decode cX6_sound 12 = .ok (.getfield 69, 3) := by decide +kernel
theorem dX6_sound_15 : decode cX6_sound 15 = .ok (.invokevirtual 223, 3) := by decide +kernel
theorem dX6_sound_18 : decode cX6_sound 18 = .ok (.iload_n 1, 1) := by decide +kernel
theorem dX6_sound_19 : decode cX6_sound 19 = .ok (.ifCond .ne 13, 3) := by decide +kernel
theorem dX6_sound_22 : decode cX6_sound 22 = .ok (.aload_n 0, 1) := by decide +kernel
theorem dX6_sound_23 : decode cX6_sound 23 = .ok (.getfield 69, 3) := by decide +kernel
theorem dX6_sound_26 : decode cX6_sound 26 = .ok (.getfield 226, 3) := by decide +kernel
theorem dX6_sound_29 : decode cX6_sound 29 = .ok (.goto 10, 3) := by decide +kernel
theorem dX6_sound_32 : decode cX6_sound 32 = .ok (.aload_n 0, 1) := by decide +kernel
theorem dX6_sound_33 : decode cX6_sound 33 = .ok (.getfield 69, 3) := by decide +kernel
theorem dX6_sound_36 : decode cX6_sound 36 = .ok (.getfield 229, 3) := by decide +kernel
theorem dX6_sound_39 : decode cX6_sound 39 = .ok (.ireturn, 1) := by decide +kernel
theorem dX6_press_0 : decode cX6_press 0 = .ok (.aload_n 0, 1) := by decide +kernel
theorem dX6_press_1 : decode cX6_press 1 = .ok (.getfield 69, 3) := by decide +kernel
theorem dX6_press_4 : decode cX6_press 4 = .ok (.invokevirtual 223, 3) := by decide +kernel
theorem dX6_press_7 : decode cX6_press 7 = .ok (.aload_n 0, 1) := by decide +kernel
theorem dX6_press_8 : decode cX6_press 8 = .ok (.getfield 69, 3) := by decide +kernel
theorem dX6_press_11 : decode cX6_press 11 = .ok (.invokevirtual 232, 3) := by decide +kernel
theorem dX6_press_14 : decode cX6_press 14 = .ok (.ireturn, 1) := by decide +kernel
theorem dX6_fair_0 : decode cX6_fair 0 = .ok (.aload_n 0, 1) := by decide +kernel
theorem dX6_fair_1 : decode cX6_fair 1 = .ok (.getfield 53, 3) := by decide +kernel
theorem dX6_fair_4 : decode cX6_fair 4 = .ok (.iload_n 1, 1) := by decide +kernel
theorem dX6_fair_5 : decode cX6_fair 5 = .ok (.invokevirtual 111, 3) := by decide +kernel
theorem dX6_fair_8 : decode cX6_fair 8 = .ok (.ifCond .eq 11, 3) := by decide +kernel
theorem dX6_fair_11 : decode cX6_fair 11 = .ok (.iload_n 2, 1) := by decide +kernel
theorem dX6_fair_12 : decode cX6_fair 12 = .ok (.iconst 1, 1) := by decide +kernel
theorem dX6_fair_13 : decode cX6_fair 13 = .ok (.invokestatic 78, 3) := by decide +kernel
theorem dX6_fair_16 : decode cX6_fair 16 = .ok (.ifCond .ne 7, 3) := by decide +kernel
theorem dX6_fair_19 : decode cX6_fair 19 = .ok (.ldc2_w 235, 3) := by decide +kernel
theorem dX6_fair_22 : decode cX6_fair 22 = .ok (.lreturn, 1) := by decide +kernel
theorem dX6_fair_23 : decode cX6_fair 23 = .ok (.iconst 0, 1) := by decide +kernel
theorem dX6_fair_24 : decode cX6_fair 24 = .ok (.istore_n 3, 1) := by decide +kernel
theorem dX6_fair_25 : decode cX6_fair 25 = .ok (.iconst 0, 1) := by decide +kernel
theorem dX6_fair_26 : decode cX6_fair 26 = .ok (.istore 4, 2) := by decide +kernel
theorem dX6_fair_28 : decode cX6_fair 28 = .ok (.iload 4, 2) := by decide +kernel
theorem dX6_fair_30 : decode cX6_fair 30 = .ok (.aload_n 0, 1) := by decide +kernel
theorem dX6_fair_31 : decode cX6_fair 31 = .ok (.getfield 53, 3) := by decide +kernel
theorem dX6_fair_34 : decode cX6_fair 34 = .ok (.getfield 200, 3) := by decide +kernel
theorem dX6_fair_37 : decode cX6_fair 37 = .ok (.if_icmp .ge 33, 3) := by decide +kernel
theorem dX6_fair_40 : decode cX6_fair 40 = .ok (.iload_n 3, 1) := by decide +kernel
theorem dX6_fair_41 : decode cX6_fair 41 = .ok (.aload_n 0, 1) := by decide +kernel
theorem dX6_fair_42 : decode cX6_fair 42 = .ok (.getfield 53, 3) := by decide +kernel
theorem dX6_fair_45 : decode cX6_fair 45 = .ok (.getfield 108, 3) := by decide +kernel
theorem dX6_fair_48 : decode cX6_fair 48 = .ok (.iload 4, 2) := by decide +kernel
theorem dX6_fair_50 : decode cX6_fair 50 = .ok (.iaload, 1) := by decide +kernel
theorem dX6_fair_51 : decode cX6_fair 51 = .ok (.aload_n 0, 1) := by decide +kernel
theorem dX6_fair_52 : decode cX6_fair 52 = .ok (.getfield 53, 3) := by decide +kernel
theorem dX6_fair_55 : decode cX6_fair 55 = .ok (.iload 4, 2) := by decide +kernel
theorem dX6_fair_57 : decode cX6_fair 57 = .ok (.iload_n 1, 1) := by decide +kernel
theorem dX6_fair_58 : decode cX6_fair 58 = .ok (.invokevirtual 173, 3) := by decide +kernel
theorem dX6_fair_61 : decode cX6_fair 61 = .ok (.imul, 1) := by decide +kernel
theorem dX6_fair_62 : decode cX6_fair 62 = .ok (.iadd, 1) := by decide +kernel
theorem dX6_fair_63 : decode cX6_fair 63 = .ok (.istore_n 3, 1) := by decide +kernel
theorem dX6_fair_64 : decode cX6_fair 64 = .ok (.iinc 4 1, 3) := by decide +kernel
theorem dX6_fair_67 : decode cX6_fair 67 = .ok (.goto (-39), 3) := by decide +kernel
theorem dX6_fair_70 : decode cX6_fair 70 = .ok (.iload_n 3, 1) := by decide +kernel
theorem dX6_fair_71 : decode cX6_fair 71 = .ok (.bipush 16, 2) := by decide +kernel
theorem dX6_fair_73 : decode cX6_fair 73 = .ok (.iload_n 2, 1) := by decide +kernel
theorem dX6_fair_74 : decode cX6_fair 74 = .ok (.invokestatic 237, 3) := by decide +kernel
theorem dX6_fair_77 : decode cX6_fair 77 = .ok (.lreturn, 1) := by decide +kernel
theorem dX6_storm_0 : decode cX6_storm 0 = .ok (.aload_n 0, 1) := by decide +kernel
theorem dX6_storm_1 : decode cX6_storm 1 = .ok (.getfield 53, 3) := by decide +kernel
theorem dX6_storm_4 : decode cX6_storm 4 = .ok (.iload_n 1, 1) := by decide +kernel
theorem dX6_storm_5 : decode cX6_storm 5 = .ok (.invokevirtual 111, 3) := by decide +kernel
theorem dX6_storm_8 : decode cX6_storm 8 = .ok (.ifCond .eq 20, 3) := by decide +kernel
theorem dX6_storm_11 : decode cX6_storm 11 = .ok (.iload_n 2, 1) := by decide +kernel
theorem dX6_storm_12 : decode cX6_storm 12 = .ok (.bipush 99, 2) := by decide +kernel
theorem dX6_storm_14 : decode cX6_storm 14 = .ok (.invokestatic 78, 3) := by decide +kernel
theorem dX6_storm_17 : decode cX6_storm 17 = .ok (.ifCond .eq 11, 3) := by decide +kernel
theorem dX6_storm_20 : decode cX6_storm 20 = .ok (.iload_n 3, 1) := by decide +kernel
theorem dX6_storm_21 : decode cX6_storm 21 = .ok (.iconst 1, 1) := by decide +kernel
theorem dX6_storm_22 : decode cX6_storm 22 = .ok (.invokestatic 78, 3) := by decide +kernel
theorem dX6_storm_25 : decode cX6_storm 25 = .ok (.ifCond .ne 7, 3) := by decide +kernel
theorem dX6_storm_28 : decode cX6_storm 28 = .ok (.ldc2_w 235, 3) := by decide +kernel
theorem dX6_storm_31 : decode cX6_storm 31 = .ok (.lreturn, 1) := by decide +kernel
theorem dX6_storm_32 : decode cX6_storm 32 = .ok (.iconst 0, 1) := by decide +kernel
theorem dX6_storm_33 : decode cX6_storm 33 = .ok (.istore 4, 2) := by decide +kernel
theorem dX6_storm_35 : decode cX6_storm 35 = .ok (.iconst 0, 1) := by decide +kernel
theorem dX6_storm_36 : decode cX6_storm 36 = .ok (.istore 5, 2) := by decide +kernel
theorem dX6_storm_38 : decode cX6_storm 38 = .ok (.iconst 0, 1) := by decide +kernel
theorem dX6_storm_39 : decode cX6_storm 39 = .ok (.istore 6, 2) := by decide +kernel
theorem dX6_storm_41 : decode cX6_storm 41 = .ok (.iload 6, 2) := by decide +kernel
theorem dX6_storm_43 : decode cX6_storm 43 = .ok (.iconst 1, 1) := by decide +kernel
theorem dX6_storm_44 : decode cX6_storm 44 = .ok (.aload_n 0, 1) := by decide +kernel
theorem dX6_storm_45 : decode cX6_storm 45 = .ok (.getfield 53, 3) := by decide +kernel
theorem dX6_storm_48 : decode cX6_storm 48 = .ok (.getfield 200, 3) := by decide +kernel
theorem dX6_storm_51 : decode cX6_storm 51 = .ok (.ishl, 1) := by decide +kernel
theorem dX6_storm_52 : decode cX6_storm 52 = .ok (.if_icmp .ge 65, 3) := by decide +kernel
theorem dX6_storm_55 : decode cX6_storm 55 = .ok (.aload_n 0, 1) := by decide +kernel
theorem dX6_storm_56 : decode cX6_storm 56 = .ok (.getfield 53, 3) := by decide +kernel
theorem dX6_storm_59 : decode cX6_storm 59 = .ok (.iload 6, 2) := by decide +kernel
theorem dX6_storm_61 : decode cX6_storm 61 = .ok (.invokevirtual 241, 3) := by decide +kernel
theorem dX6_storm_64 : decode cX6_storm 64 = .ok (.istore 7, 2) := by decide +kernel
theorem dX6_storm_66 : decode cX6_storm 66 = .ok (.iload 5, 2) := by decide +kernel
theorem dX6_storm_68 : decode cX6_storm 68 = .ok (.iload 7, 2) := by decide +kernel
theorem dX6_storm_70 : decode cX6_storm 70 = .ok (.iadd, 1) := by decide +kernel
theorem dX6_storm_71 : decode cX6_storm 71 = .ok (.istore 5, 2) := by decide +kernel
theorem dX6_storm_73 : decode cX6_storm 73 = .ok (.iload 7, 2) := by decide +kernel
theorem dX6_storm_75 : decode cX6_storm 75 = .ok (.ifCond .le 36, 3) := by decide +kernel
theorem dX6_storm_78 : decode cX6_storm 78 = .ok (.aload_n 0, 1) := by decide +kernel
theorem dX6_storm_79 : decode cX6_storm 79 = .ok (.getfield 57, 3) := by decide +kernel
theorem dX6_storm_82 : decode cX6_storm 82 = .ok (.iload 6, 2) := by decide +kernel
theorem dX6_storm_84 : decode cX6_storm 84 = .ok (.invokevirtual 244, 3) := by decide +kernel
theorem dX6_storm_87 : decode cX6_storm 87 = .ok (.iload 4, 2) := by decide +kernel
theorem dX6_storm_89 : decode cX6_storm 89 = .ok (.aload_n 0, 1) := by decide +kernel
theorem dX6_storm_90 : decode cX6_storm 90 = .ok (.getfield 57, 3) := by decide +kernel
theorem dX6_storm_93 : decode cX6_storm 93 = .ok (.getfield 183, 3) := by decide +kernel
theorem dX6_storm_96 : decode cX6_storm 96 = .ok (.iload_n 1, 1) := by decide +kernel
theorem dX6_storm_97 : decode cX6_storm 97 = .ok (.iaload, 1) := by decide +kernel
theorem dX6_storm_98 : decode cX6_storm 98 = .ok (.iload_n 2, 1) := by decide +kernel
theorem dX6_storm_99 : decode cX6_storm 99 = .ok (.if_icmp .lt 8, 3) := by decide +kernel
theorem dX6_storm_102 : decode cX6_storm 102 = .ok (.iload 7, 2) := by decide +kernel
theorem dX6_storm_104 : decode cX6_storm 104 = .ok (.goto 4, 3) := by decide +kernel
theorem dX6_storm_107 : decode cX6_storm 107 = .ok (.iconst 0, 1) := by decide +kernel
theorem dX6_storm_108 : decode cX6_storm 108 = .ok (.iadd, 1) := by decide +kernel
theorem dX6_storm_109 : decode cX6_storm 109 = .ok (.istore 4, 2) := by decide +kernel
theorem dX6_storm_111 : decode cX6_storm 111 = .ok (.iinc 6 1, 3) := by decide +kernel
theorem dX6_storm_114 : decode cX6_storm 114 = .ok (.goto (-73), 3) := by decide +kernel
theorem dX6_storm_117 : decode cX6_storm 117 = .ok (.iload 4, 2) := by decide +kernel
theorem dX6_storm_119 : decode cX6_storm 119 = .ok (.iload 5, 2) := by decide +kernel
theorem dX6_storm_121 : decode cX6_storm 121 = .ok (.iload_n 3, 1) := by decide +kernel
theorem dX6_storm_122 : decode cX6_storm 122 = .ok (.invokestatic 237, 3) := by decide +kernel
theorem dX6_storm_125 : decode cX6_storm 125 = .ok (.lreturn, 1) := by decide +kernel
theorem dX6_years_0 : decode cX6_years 0 = .ok (.iload_n 2, 1) := by decide +kernel
theorem dX6_years_1 : decode cX6_years 1 = .ok (.iconst 1, 1) := by decide +kernel
theorem dX6_years_2 : decode cX6_years 2 = .ok (.if_icmp .lt 29, 3) := by decide +kernel
theorem dX6_years_5 : decode cX6_years 5 = .ok (.iload_n 2, 1) := by decide +kernel
theorem dX6_years_6 : decode cX6_years 6 = .ok (.bipush 30, 2) := by decide +kernel
theorem dX6_years_8 : decode cX6_years 8 = .ok (.if_icmp .gt 23, 3) := by decide +kernel
theorem dX6_years_11 : decode cX6_years 11 = .ok (.aload_n 0, 1) := by decide +kernel
theorem dX6_years_12 : decode cX6_years 12 = .ok (.getfield 53, 3) := by decide +kernel
theorem dX6_years_15 : decode cX6_years 15 = .ok (.iload_n 3, 1) := by decide +kernel
theorem dX6_years_16 : decode cX6_years 16 = .ok (.invokevirtual 111, 3) := by decide +kernel
theorem dX6_years_19 : decode cX6_years 19 = .ok (.ifCond .eq 12, 3) := by decide +kernel
theorem dX6_years_22 : decode cX6_years 22 = .ok (.iload 4, 2) := by decide +kernel
theorem dX6_years_24 : decode cX6_years 24 = .ok (.iconst 1, 1) := by decide +kernel
theorem dX6_years_25 : decode cX6_years 25 = .ok (.invokestatic 78, 3) := by decide +kernel
theorem dX6_years_28 : decode cX6_years 28 = .ok (.ifCond .ne 6, 3) := by decide +kernel
theorem dX6_years_31 : decode cX6_years 31 = .ok (.bipush (-2), 2) := by decide +kernel
theorem dX6_years_33 : decode cX6_years 33 = .ok (.ireturn, 1) := by decide +kernel
theorem dX6_years_34 : decode cX6_years 34 = .ok (.aload_n 0, 1) := by decide +kernel
theorem dX6_years_35 : decode cX6_years 35 = .ok (.getfield 57, 3) := by decide +kernel
theorem dX6_years_38 : decode cX6_years 38 = .ok (.iload_n 1, 1) := by decide +kernel
theorem dX6_years_39 : decode cX6_years 39 = .ok (.iload_n 2, 1) := by decide +kernel
theorem dX6_years_40 : decode cX6_years 40 = .ok (.invokevirtual 247, 3) := by decide +kernel
theorem dX6_years_43 : decode cX6_years 43 = .ok (.iload 4, 2) := by decide +kernel
theorem dX6_years_45 : decode cX6_years 45 = .ok (.ifCond .ne 15, 3) := by decide +kernel
theorem dX6_years_48 : decode cX6_years 48 = .ok (.aload_n 0, 1) := by decide +kernel
theorem dX6_years_49 : decode cX6_years 49 = .ok (.getfield 57, 3) := by decide +kernel
theorem dX6_years_52 : decode cX6_years 52 = .ok (.getfield 183, 3) := by decide +kernel
theorem dX6_years_55 : decode cX6_years 55 = .ok (.iload_n 3, 1) := by decide +kernel
theorem dX6_years_56 : decode cX6_years 56 = .ok (.iaload, 1) := by decide +kernel
theorem dX6_years_57 : decode cX6_years 57 = .ok (.goto 13, 3) := by decide +kernel
theorem dX6_years_60 : decode cX6_years 60 = .ok (.aload_n 0, 1) := by decide +kernel
theorem dX6_years_61 : decode cX6_years 61 = .ok (.getfield 57, 3) := by decide +kernel
theorem dX6_years_64 : decode cX6_years 64 = .ok (.getfield 189, 3) := by decide +kernel
theorem dX6_years_67 : decode cX6_years 67 = .ok (.invokestatic 212, 3) := by decide +kernel
theorem dX6_years_70 : decode cX6_years 70 = .ok (.ireturn, 1) := by decide +kernel
theorem dX6_sheet_0 : decode cX6_sheet 0 = .ok (.aload_n 0, 1) := by decide +kernel
theorem dX6_sheet_1 : decode cX6_sheet 1 = .ok (.iload_n 1, 1) := by decide +kernel
theorem dX6_sheet_2 : decode cX6_sheet 2 = .ok (.invokevirtual 151, 3) := by decide +kernel
theorem dX6_sheet_5 : decode cX6_sheet 5 = .ok (.astore 4, 2) := by decide +kernel
theorem dX6_sheet_7 : decode cX6_sheet 7 = .ok (.aload 4, 2) := by decide +kernel
theorem dX6_sheet_9 : decode cX6_sheet 9 = .ok (.ifnull 16, 3) := by decide +kernel
theorem dX6_sheet_12 : decode cX6_sheet 12 = .ok (.iload_n 2, 1) := by decide +kernel
theorem dX6_sheet_13 : decode cX6_sheet 13 = .ok (.invokestatic 251, 3) := by decide +kernel
theorem dX6_sheet_16 : decode cX6_sheet 16 = .ok (.ifCond .eq 9, 3) := by decide +kernel
theorem dX6_sheet_19 : decode cX6_sheet 19 = .ok (.iload_n 3, 1) := by decide +kernel
theorem dX6_sheet_20 : decode cX6_sheet 20 = .ok (.bipush 60, 2) := by decide +kernel
theorem dX6_sheet_22 : decode cX6_sheet 22 = .ok (.if_icmp .le 6, 3) := by decide +kernel
theorem dX6_sheet_25 : decode cX6_sheet 25 = .ok (.bipush (-2), 2) := by decide +kernel
theorem dX6_sheet_27 : decode cX6_sheet 27 = .ok (.ireturn, 1) := by decide +kernel
theorem dX6_sheet_28 : decode cX6_sheet 28 = .ok (.iload_n 3, 1) := by decide +kernel
theorem dX6_sheet_29 : decode cX6_sheet 29 = .ok (.ifCond .ge 9, 3) := by decide +kernel
theorem dX6_sheet_32 : decode cX6_sheet 32 = .ok (.aload_n 0, 1) := by decide +kernel
theorem dX6_sheet_33 : decode cX6_sheet 33 = .ok (.iconst 5, 1) := by decide +kernel
theorem dX6_sheet_34 : decode cX6_sheet 34 = .ok (.invokevirtual 159, 3) := by decide +kernel
theorem dX6_sheet_37 : decode cX6_sheet 37 = .ok (.ireturn, 1) := by decide +kernel
theorem dX6_sheet_38 : decode cX6_sheet 38 = .ok (.aload 4, 2) := by decide +kernel
theorem dX6_sheet_40 : decode cX6_sheet 40 = .ok (.iload_n 2, 1) := by decide +kernel
theorem dX6_sheet_41 : decode cX6_sheet 41 = .ok (.iload_n 3, 1) := by decide +kernel
theorem dX6_sheet_42 : decode cX6_sheet 42 = .ok (.invokevirtual 254, 3) := by decide +kernel
theorem dX6_sheet_45 : decode cX6_sheet 45 = .ok (.iload_n 3, 1) := by decide +kernel
theorem dX6_sheet_46 : decode cX6_sheet 46 = .ok (.ireturn, 1) := by decide +kernel
theorem dX6_lose_0 : decode cX6_lose 0 = .ok (.aload_n 0, 1) := by decide +kernel
theorem dX6_lose_1 : decode cX6_lose 1 = .ok (.iload_n 1, 1) := by decide +kernel
theorem dX6_lose_2 : decode cX6_lose 2 = .ok (.invokevirtual 151, 3) := by decide +kernel
theorem dX6_lose_5 : decode cX6_lose 5 = .ok (.astore_n 2, 1) := by decide +kernel
theorem dX6_lose_6 : decode cX6_lose 6 = .ok (.aload_n 2, 1) := by decide +kernel
theorem dX6_lose_7 : decode cX6_lose 7 = .ok (.ifnonnull 6, 3) := by decide +kernel
theorem dX6_lose_10 : decode cX6_lose 10 = .ok (.bipush (-2), 2) := by decide +kernel
theorem dX6_lose_12 : decode cX6_lose 12 = .ok (.ireturn, 1) := by decide +kernel
theorem dX6_lose_13 : decode cX6_lose 13 = .ok (.aload_n 2, 1) := by decide +kernel
theorem dX6_lose_14 : decode cX6_lose 14 = .ok (.getfield 155, 3) := by decide +kernel
theorem dX6_lose_17 : decode cX6_lose 17 = .ok (.ifCond .eq 9, 3) := by decide +kernel
theorem dX6_lose_20 : decode cX6_lose 20 = .ok (.aload_n 0, 1) := by decide +kernel
theorem dX6_lose_21 : decode cX6_lose 21 = .ok (.iconst 1, 1) := by decide +kernel
theorem dX6_lose_22 : decode cX6_lose 22 = .ok (.invokevirtual 159, 3) := by decide +kernel
theorem dX6_lose_25 : decode cX6_lose 25 = .ok (.ireturn, 1) := by decide +kernel
theorem dX6_lose_26 : decode cX6_lose 26 = .ok (.aload_n 2, 1) := by decide +kernel
theorem dX6_lose_27 : decode cX6_lose 27 = .ok (.iconst 1, 1) := by decide +kernel
theorem dX6_lose_28 : decode cX6_lose 28 = .ok (.putfield 155, 3) := by decide +kernel
theorem dX6_lose_31 : decode cX6_lose 31 = .ok (.aload_n 2, 1) := by decide +kernel
theorem dX6_lose_32 : decode cX6_lose 32 = .ok (.getfield 163, 3) := by decide +kernel
theorem dX6_lose_35 : decode cX6_lose 35 = .ok (.ireturn, 1) := by decide +kernel
theorem dX6_lay_0 : decode cX6_lay 0 = .ok (.aload_n 0, 1) := by decide +kernel
theorem dX6_lay_1 : decode cX6_lay 1 = .ok (.iload_n 1, 1) := by decide +kernel
theorem dX6_lay_2 : decode cX6_lay 2 = .ok (.invokevirtual 151, 3) := by decide +kernel
theorem dX6_lay_5 : decode cX6_lay 5 = .ok (.astore 5, 2) := by decide +kernel
theorem dX6_lay_7 : decode cX6_lay 7 = .ok (.aload 5, 2) := by decide +kernel
theorem dX6_lay_9 : decode cX6_lay 9 = .ok (.ifnull 10, 3) := by decide +kernel
theorem dX6_lay_12 : decode cX6_lay 12 = .ok (.iload_n 2, 1) := by decide +kernel
theorem dX6_lay_13 : decode cX6_lay 13 = .ok (.invokestatic 251, 3) := by decide +kernel
theorem dX6_lay_16 : decode cX6_lay 16 = .ok (.ifCond .ne 6, 3) := by decide +kernel
theorem dX6_lay_19 : decode cX6_lay 19 = .ok (.bipush (-2), 2) := by decide +kernel
theorem dX6_lay_21 : decode cX6_lay 21 = .ok (.ireturn, 1) := by decide +kernel
theorem dX6_lay_22 : decode cX6_lay 22 = .ok (.aload 5, 2) := by decide +kernel
theorem dX6_lay_24 : decode cX6_lay 24 = .ok (.iload_n 2, 1) := by decide +kernel
theorem dX6_lay_25 : decode cX6_lay 25 = .ok (.iload_n 3, 1) := by decide +kernel
theorem dX6_lay_26 : decode cX6_lay 26 = .ok (.invokevirtual 257, 3) := by decide +kernel
theorem dX6_lay_29 : decode cX6_lay 29 = .ok (.istore 6, 2) := by decide +kernel
theorem dX6_lay_31 : decode cX6_lay 31 = .ok (.iload 6, 2) := by decide +kernel
theorem dX6_lay_33 : decode cX6_lay 33 = .ok (.ifCond .eq 10, 3) := by decide +kernel
theorem dX6_lay_36 : decode cX6_lay 36 = .ok (.aload_n 0, 1) := by decide +kernel
theorem dX6_lay_37 : decode cX6_lay 37 = .ok (.iload 6, 2) := by decide +kernel
theorem dX6_lay_39 : decode cX6_lay 39 = .ok (.invokevirtual 159, 3) := by decide +kernel
theorem dX6_lay_42 : decode cX6_lay 42 = .ok (.ireturn, 1) := by decide +kernel
theorem dX6_lay_43 : decode cX6_lay 43 = .ok (.aload 5, 2) := by decide +kernel
theorem dX6_lay_45 : decode cX6_lay 45 = .ok (.iload_n 3, 1) := by decide +kernel
theorem dX6_lay_46 : decode cX6_lay 46 = .ok (.iload 4, 2) := by decide +kernel
theorem dX6_lay_48 : decode cX6_lay 48 = .ok (.invokevirtual 260, 3) := by decide +kernel
theorem dX6_lay_51 : decode cX6_lay 51 = .ok (.iconst 1, 1) := by decide +kernel
theorem dX6_lay_52 : decode cX6_lay 52 = .ok (.ireturn, 1) := by decide +kernel
theorem dX6_get_0 : decode cX6_get 0 = .ok (.aload_n 0, 1) := by decide +kernel
theorem dX6_get_1 : decode cX6_get 1 = .ok (.iload_n 1, 1) := by decide +kernel
theorem dX6_get_2 : decode cX6_get 2 = .ok (.invokevirtual 151, 3) := by decide +kernel
theorem dX6_get_5 : decode cX6_get 5 = .ok (.astore 4, 2) := by decide +kernel
theorem dX6_get_7 : decode cX6_get 7 = .ok (.aload 4, 2) := by decide +kernel
theorem dX6_get_9 : decode cX6_get 9 = .ok (.ifnull 10, 3) := by decide +kernel
theorem dX6_get_12 : decode cX6_get 12 = .ok (.iload_n 2, 1) := by decide +kernel
theorem dX6_get_13 : decode cX6_get 13 = .ok (.invokestatic 251, 3) := by decide +kernel
theorem dX6_get_16 : decode cX6_get 16 = .ok (.ifCond .ne 7, 3) := by decide +kernel
theorem dX6_get_19 : decode cX6_get 19 = .ok (.ldc_w 263, 3) := by decide +kernel
theorem dX6_get_22 : decode cX6_get 22 = .ok (.ireturn, 1) := by decide +kernel
theorem dX6_get_23 : decode cX6_get 23 = .ok (.aload 4, 2) := by decide +kernel
theorem dX6_get_25 : decode cX6_get 25 = .ok (.iload_n 2, 1) := by decide +kernel
theorem dX6_get_26 : decode cX6_get 26 = .ok (.iload_n 3, 1) := by decide +kernel
theorem dX6_get_27 : decode cX6_get 27 = .ok (.invokevirtual 257, 3) := by decide +kernel
theorem dX6_get_30 : decode cX6_get 30 = .ok (.istore 5, 2) := by decide +kernel
theorem dX6_get_32 : decode cX6_get 32 = .ok (.iload 5, 2) := by decide +kernel
theorem dX6_get_34 : decode cX6_get 34 = .ok (.ifCond .eq 14, 3) := by decide +kernel
theorem dX6_get_37 : decode cX6_get 37 = .ok (.aload_n 0, 1) := by decide +kernel
theorem dX6_get_38 : decode cX6_get 38 = .ok (.iload 5, 2) := by decide +kernel
theorem dX6_get_40 : decode cX6_get 40 = .ok (.invokevirtual 159, 3) := by decide +kernel
theorem dX6_get_43 : decode cX6_get 43 = .ok (.pop, 1) := by decide +kernel
theorem dX6_get_44 : decode cX6_get 44 = .ok (.ldc_w 263, 3) := by decide +kernel
theorem dX6_get_47 : decode cX6_get 47 = .ok (.ireturn, 1) := by decide +kernel
theorem dX6_get_48 : decode cX6_get 48 = .ok (.aload 4, 2) := by decide +kernel
theorem dX6_get_50 : decode cX6_get 50 = .ok (.getfield 164, 3) := by decide +kernel
theorem dX6_get_53 : decode cX6_get 53 = .ok (.iload_n 3, 1) := by decide +kernel
theorem dX6_get_54 : decode cX6_get 54 = .ok (.iaload, 1) := by decide +kernel
theorem dX6_get_55 : decode cX6_get 55 = .ok (.ireturn, 1) := by decide +kernel
theorem dX6_copy_0 : decode cX6_copy 0 = .ok (.aload_n 0, 1) := by decide +kernel
theorem dX6_copy_1 : decode cX6_copy 1 = .ok (.iload_n 1, 1) := by decide +kernel
theorem dX6_copy_2 : decode cX6_copy 2 = .ok (.invokevirtual 151, 3) := by decide +kernel
theorem dX6_copy_5 : decode cX6_copy 5 = .ok (.astore 6, 2) := by decide +kernel
theorem dX6_copy_7 : decode cX6_copy 7 = .ok (.aload_n 0, 1) := by decide +kernel
theorem dX6_copy_8 : decode cX6_copy 8 = .ok (.iload_n 3, 1) := by decide +kernel
theorem dX6_copy_9 : decode cX6_copy 9 = .ok (.invokevirtual 151, 3) := by decide +kernel
theorem dX6_copy_12 : decode cX6_copy 12 = .ok (.astore 7, 2) := by decide +kernel
theorem dX6_copy_14 : decode cX6_copy 14 = .ok (.aload 6, 2) := by decide +kernel
theorem dX6_copy_16 : decode cX6_copy 16 = .ok (.ifnull 8, 3) := by decide +kernel
theorem dX6_copy_19 : decode cX6_copy 19 = .ok (.aload 7, 2) := by decide +kernel
theorem dX6_copy_21 : decode cX6_copy 21 = .ok (.ifnonnull 6, 3) := by decide +kernel
theorem dX6_copy_24 : decode cX6_copy 24 = .ok (.bipush (-2), 2) := by decide +kernel
theorem dX6_copy_26 : decode cX6_copy 26 = .ok (.ireturn, 1) := by decide +kernel
theorem dX6_copy_27 : decode cX6_copy 27 = .ok (.aload 6, 2) := by decide +kernel
theorem dX6_copy_29 : decode cX6_copy 29 = .ok (.getfield 155, 3) := by decide +kernel
theorem dX6_copy_32 : decode cX6_copy 32 = .ok (.ifCond .ne 11, 3) := by decide +kernel
theorem dX6_copy_35 : decode cX6_copy 35 = .ok (.aload 7, 2) := by decide +kernel
theorem dX6_copy_37 : decode cX6_copy 37 = .ok (.getfield 155, 3) := by decide +kernel
theorem dX6_copy_40 : decode cX6_copy 40 = .ok (.ifCond .eq 9, 3) := by decide +kernel
theorem dX6_copy_43 : decode cX6_copy 43 = .ok (.aload_n 0, 1) := by decide +kernel
theorem dX6_copy_44 : decode cX6_copy 44 = .ok (.iconst 1, 1) := by decide +kernel
theorem dX6_copy_45 : decode cX6_copy 45 = .ok (.invokevirtual 159, 3) := by decide +kernel
theorem dX6_copy_48 : decode cX6_copy 48 = .ok (.ireturn, 1) := by decide +kernel
theorem dX6_copy_49 : decode cX6_copy 49 = .ok (.aload 6, 2) := by decide +kernel
theorem dX6_copy_51 : decode cX6_copy 51 = .ok (.getfield 264, 3) := by decide +kernel
theorem dX6_copy_54 : decode cX6_copy 54 = .ok (.aload 7, 2) := by decide +kernel
theorem dX6_copy_56 : decode cX6_copy 56 = .ok (.getfield 264, 3) := by decide +kernel
theorem dX6_copy_59 : decode cX6_copy 59 = .ok (.if_icmp .eq 9, 3) := by decide +kernel
theorem dX6_copy_62 : decode cX6_copy 62 = .ok (.aload_n 0, 1) := by decide +kernel
theorem dX6_copy_63 : decode cX6_copy 63 = .ok (.iconst 4, 1) := by decide +kernel
theorem dX6_copy_64 : decode cX6_copy 64 = .ok (.invokevirtual 159, 3) := by decide +kernel
theorem dX6_copy_67 : decode cX6_copy 67 = .ok (.ireturn, 1) := by decide +kernel
theorem dX6_copy_68 : decode cX6_copy 68 = .ok (.aload 6, 2) := by decide +kernel
theorem dX6_copy_70 : decode cX6_copy 70 = .ok (.iload_n 2, 1) := by decide +kernel
theorem dX6_copy_71 : decode cX6_copy 71 = .ok (.iload 5, 2) := by decide +kernel
theorem dX6_copy_73 : decode cX6_copy 73 = .ok (.invokevirtual 267, 3) := by decide +kernel
theorem dX6_copy_76 : decode cX6_copy 76 = .ok (.ifCond .eq 15, 3) := by decide +kernel
theorem dX6_copy_79 : decode cX6_copy 79 = .ok (.aload 7, 2) := by decide +kernel
theorem dX6_copy_81 : decode cX6_copy 81 = .ok (.iload 4, 2) := by decide +kernel
theorem dX6_copy_83 : decode cX6_copy 83 = .ok (.iload 5, 2) := by decide +kernel
theorem dX6_copy_85 : decode cX6_copy 85 = .ok (.invokevirtual 267, 3) := by decide +kernel
theorem dX6_copy_88 : decode cX6_copy 88 = .ok (.ifCond .ne 9, 3) := by decide +kernel
theorem dX6_copy_91 : decode cX6_copy 91 = .ok (.aload_n 0, 1) := by decide +kernel
theorem dX6_copy_92 : decode cX6_copy 92 = .ok (.iconst 2, 1) := by decide +kernel
theorem dX6_copy_93 : decode cX6_copy 93 = .ok (.invokevirtual 159, 3) := by decide +kernel
theorem dX6_copy_96 : decode cX6_copy 96 = .ok (.ireturn, 1) := by decide +kernel
theorem dX6_copy_97 : decode cX6_copy 97 = .ok (.aload 6, 2) := by decide +kernel
theorem dX6_copy_99 : decode cX6_copy 99 = .ok (.getfield 164, 3) := by decide +kernel
theorem dX6_copy_102 : decode cX6_copy 102 = .ok (.iload_n 2, 1) := by decide +kernel
theorem dX6_copy_103 : decode cX6_copy 103 = .ok (.aload 7, 2) := by decide +kernel
theorem dX6_copy_105 : decode cX6_copy 105 = .ok (.getfield 164, 3) := by decide +kernel
theorem dX6_copy_108 : decode cX6_copy 108 = .ok (.iload 4, 2) := by decide +kernel
theorem dX6_copy_110 : decode cX6_copy 110 = .ok (.iload 5, 2) := by decide +kernel
theorem dX6_copy_112 : decode cX6_copy 112 = .ok (.invokestatic 270, 3) := by decide +kernel
theorem dX6_copy_115 : decode cX6_copy 115 = .ok (.iconst 1, 1) := by decide +kernel
theorem dX6_copy_116 : decode cX6_copy 116 = .ok (.ireturn, 1) := by decide +kernel
theorem dX6_write_0 : decode cX6_write 0 = .ok (.aload_n 0, 1) := by decide +kernel
theorem dX6_write_1 : decode cX6_write 1 = .ok (.iload_n 2, 1) := by decide +kernel
theorem dX6_write_2 : decode cX6_write 2 = .ok (.invokevirtual 151, 3) := by decide +kernel
theorem dX6_write_5 : decode cX6_write 5 = .ok (.astore_n 3, 1) := by decide +kernel
theorem dX6_write_6 : decode cX6_write 6 = .ok (.iload_n 1, 1) := by decide +kernel
theorem dX6_write_7 : decode cX6_write 7 = .ok (.invokestatic 176, 3) := by decide +kernel
theorem dX6_write_10 : decode cX6_write 10 = .ok (.ifCond .eq 7, 3) := by decide +kernel
theorem dX6_write_13 : decode cX6_write 13 = .ok (.aload_n 3, 1) := by decide +kernel
theorem dX6_write_14 : decode cX6_write 14 = .ok (.ifnonnull 6, 3) := by decide +kernel
theorem dX6_write_17 : decode cX6_write 17 = .ok (.bipush (-2), 2) := by decide +kernel
theorem dX6_write_19 : decode cX6_write 19 = .ok (.ireturn, 1) := by decide +kernel
theorem dX6_write_20 : decode cX6_write 20 = .ok (.aload_n 3, 1) := by decide +kernel
theorem dX6_write_21 : decode cX6_write 21 = .ok (.getfield 155, 3) := by decide +kernel
theorem dX6_write_24 : decode cX6_write 24 = .ok (.ifCond .eq 9, 3) := by decide +kernel
theorem dX6_write_27 : decode cX6_write 27 = .ok (.aload_n 0, 1) := by decide +kernel
theorem dX6_write_28 : decode cX6_write 28 = .ok (.iconst 1, 1) := by decide +kernel
theorem dX6_write_29 : decode cX6_write 29 = .ok (.invokevirtual 159, 3) := by decide +kernel
theorem dX6_write_32 : decode cX6_write 32 = .ok (.ireturn, 1) := by decide +kernel
theorem dX6_write_33 : decode cX6_write 33 = .ok (.aload_n 0, 1) := by decide +kernel
theorem dX6_write_34 : decode cX6_write 34 = .ok (.getfield 57, 3) := by decide +kernel
theorem dX6_write_37 : decode cX6_write 37 = .ok (.aload_n 0, 1) := by decide +kernel
theorem dX6_write_38 : decode cX6_write 38 = .ok (.getfield 35, 3) := by decide +kernel
theorem dX6_write_41 : decode cX6_write 41 = .ok (.iload_n 1, 1) := by decide +kernel
theorem dX6_write_42 : decode cX6_write 42 = .ok (.invokevirtual 179, 3) := by decide +kernel
theorem dX6_write_45 : decode cX6_write 45 = .ok (.aload_n 3, 1) := by decide +kernel
theorem dX6_write_46 : decode cX6_write 46 = .ok (.getfield 163, 3) := by decide +kernel
theorem dX6_write_49 : decode cX6_write 49 = .ok (.aload_n 0, 1) := by decide +kernel
theorem dX6_write_50 : decode cX6_write 50 = .ok (.getfield 53, 3) := by decide +kernel
theorem dX6_write_53 : decode cX6_write 53 = .ok (.getfield 206, 3) := by decide +kernel
theorem dX6_write_56 : decode cX6_write 56 = .ok (.invokestatic 276, 3) := by decide +kernel
theorem dX6_write_59 : decode cX6_write 59 = .ok (.istore 4, 2) := by decide +kernel
theorem dX6_write_61 : decode cX6_write 61 = .ok (.iconst 0, 1) := by decide +kernel
theorem dX6_write_62 : decode cX6_write 62 = .ok (.istore 5, 2) := by decide +kernel
theorem dX6_write_64 : decode cX6_write 64 = .ok (.iload 5, 2) := by decide +kernel
theorem dX6_write_66 : decode cX6_write 66 = .ok (.iload 4, 2) := by decide +kernel
theorem dX6_write_68 : decode cX6_write 68 = .ok (.if_icmp .ge 25, 3) := by decide +kernel
theorem dX6_write_71 : decode cX6_write 71 = .ok (.aload_n 3, 1) := by decide +kernel
theorem dX6_write_72 : decode cX6_write 72 = .ok (.iload 5, 2) := by decide +kernel
theorem dX6_write_74 : decode cX6_write 74 = .ok (.aload_n 0, 1) := by decide +kernel
theorem dX6_write_75 : decode cX6_write 75 = .ok (.getfield 57, 3) := by decide +kernel
theorem dX6_write_78 : decode cX6_write 78 = .ok (.getfield 183, 3) := by decide +kernel
theorem dX6_write_81 : decode cX6_write 81 = .ok (.iload 5, 2) := by decide +kernel
theorem dX6_write_83 : decode cX6_write 83 = .ok (.iaload, 1) := by decide +kernel
theorem dX6_write_84 : decode cX6_write 84 = .ok (.invokevirtual 260, 3) := by decide +kernel
theorem dX6_write_87 : decode cX6_write 87 = .ok (.iinc 5 1, 3) := by decide +kernel
theorem dX6_write_90 : decode cX6_write 90 = .ok (.goto (-26), 3) := by decide +kernel
theorem dX6_write_93 : decode cX6_write 93 = .ok (.iload 4, 2) := by decide +kernel
theorem dX6_write_95 : decode cX6_write 95 = .ok (.ireturn, 1) := by decide +kernel
theorem dX6_count_0 : decode cX6_count 0 = .ok (.iload_n 1, 1) := by decide +kernel
theorem dX6_count_1 : decode cX6_count 1 = .ok (.tableswitch 120 0 8 #[51, 59, 67, 75, 83, 91, 99, 107, 115], 51) := by decide +kernel
theorem dX6_count_52 : decode cX6_count 52 = .ok (.aload_n 0, 1) := by decide +kernel
theorem dX6_count_53 : decode cX6_count 53 = .ok (.getfield 53, 3) := by decide +kernel
theorem dX6_count_56 : decode cX6_count 56 = .ok (.getfield 200, 3) := by decide +kernel
theorem dX6_count_59 : decode cX6_count 59 = .ok (.ireturn, 1) := by decide +kernel
theorem dX6_count_60 : decode cX6_count 60 = .ok (.aload_n 0, 1) := by decide +kernel
theorem dX6_count_61 : decode cX6_count 61 = .ok (.getfield 53, 3) := by decide +kernel
theorem dX6_count_64 : decode cX6_count 64 = .ok (.getfield 206, 3) := by decide +kernel
theorem dX6_count_67 : decode cX6_count 67 = .ok (.ireturn, 1) := by decide +kernel
theorem dX6_count_68 : decode cX6_count 68 = .ok (.aload_n 0, 1) := by decide +kernel
theorem dX6_count_69 : decode cX6_count 69 = .ok (.getfield 53, 3) := by decide +kernel
theorem dX6_count_72 : decode cX6_count 72 = .ok (.getfield 281, 3) := by decide +kernel
theorem dX6_count_75 : decode cX6_count 75 = .ok (.ireturn, 1) := by decide +kernel
theorem dX6_count_76 : decode cX6_count 76 = .ok (.aload_n 0, 1) := by decide +kernel
theorem dX6_count_77 : decode cX6_count 77 = .ok (.getfield 16, 3) := by decide +kernel
theorem dX6_count_80 : decode cX6_count 80 = .ok (.getfield 92, 3) := by decide +kernel
theorem dX6_count_83 : decode cX6_count 83 = .ok (.ireturn, 1) := by decide +kernel
theorem dX6_count_84 : decode cX6_count 84 = .ok (.aload_n 0, 1) := by decide +kernel
theorem dX6_count_85 : decode cX6_count 85 = .ok (.getfield 22, 3) := by decide +kernel
theorem dX6_count_88 : decode cX6_count 88 = .ok (.getfield 92, 3) := by decide +kernel
theorem dX6_count_91 : decode cX6_count 91 = .ok (.ireturn, 1) := by decide +kernel
theorem dX6_count_92 : decode cX6_count 92 = .ok (.aload_n 0, 1) := by decide +kernel
theorem dX6_count_93 : decode cX6_count 93 = .ok (.getfield 27, 3) := by decide +kernel
theorem dX6_count_96 : decode cX6_count 96 = .ok (.getfield 92, 3) := by decide +kernel
theorem dX6_count_99 : decode cX6_count 99 = .ok (.ireturn, 1) := by decide +kernel
theorem dX6_count_100 : decode cX6_count 100 = .ok (.aload_n 0, 1) := by decide +kernel
theorem dX6_count_101 : decode cX6_count 101 = .ok (.getfield 35, 3) := by decide +kernel
theorem dX6_count_104 : decode cX6_count 104 = .ok (.getfield 148, 3) := by decide +kernel
theorem dX6_count_107 : decode cX6_count 107 = .ok (.ireturn, 1) := by decide +kernel
theorem dX6_count_108 : decode cX6_count 108 = .ok (.aload_n 0, 1) := by decide +kernel
theorem dX6_count_109 : decode cX6_count 109 = .ok (.getfield 61, 3) := by decide +kernel
theorem dX6_count_112 : decode cX6_count 112 = .ok (.getfield 148, 3) := by decide +kernel
theorem dX6_count_115 : decode cX6_count 115 = .ok (.ireturn, 1) := by decide +kernel
theorem dX6_count_116 : decode cX6_count 116 = .ok (.aload_n 0, 1) := by decide +kernel
theorem dX6_count_117 : decode cX6_count 117 = .ok (.getfield 284, 3) := by decide +kernel
theorem dX6_count_120 : decode cX6_count 120 = .ok (.ireturn, 1) := by decide +kernel
theorem dX6_count_121 : decode cX6_count 121 = .ok (.bipush (-2), 2) := by decide +kernel
theorem dX6_count_123 : decode cX6_count 123 = .ok (.ireturn, 1) := by decide +kernel
theorem dX6_digest_0 : decode cX6_digest 0 = .ok (.ldc2_w 287, 3) := by decide +kernel
theorem dX6_digest_3 : decode cX6_digest 3 = .ok (.lstore_n 1, 1) := by decide +kernel
theorem dX6_digest_4 : decode cX6_digest 4 = .ok (.iconst 0, 1) := by decide +kernel
theorem dX6_digest_5 : decode cX6_digest 5 = .ok (.istore_n 3, 1) := by decide +kernel
theorem dX6_digest_6 : decode cX6_digest 6 = .ok (.iload_n 3, 1) := by decide +kernel
theorem dX6_digest_7 : decode cX6_digest 7 = .ok (.bipush 7, 2) := by decide +kernel
theorem dX6_digest_9 : decode cX6_digest 9 = .ok (.if_icmp .gt 22, 3) := by decide +kernel
theorem dX6_digest_12 : decode cX6_digest 12 = .ok (.ldc2_w 289, 3) := by decide +kernel
theorem dX6_digest_15 : decode cX6_digest 15 = .ok (.lload_n 1, 1) := by decide +kernel
theorem dX6_digest_16 : decode cX6_digest 16 = .ok (.lmul, 1) := by decide +kernel
theorem dX6_digest_17 : decode cX6_digest 17 = .ok (.aload_n 0, 1) := by decide +kernel
theorem dX6_digest_18 : decode cX6_digest 18 = .ok (.iload_n 3, 1) := by decide +kernel
theorem dX6_digest_19 : decode cX6_digest 19 = .ok (.invokevirtual 291, 3) := by decide +kernel
theorem dX6_digest_22 : decode cX6_digest 22 = .ok (.i2l, 1) := by decide +kernel
theorem dX6_digest_23 : decode cX6_digest 23 = .ok (.ladd, 1) := by decide +kernel
theorem dX6_digest_24 : decode cX6_digest 24 = .ok (.lstore_n 1, 1) := by decide +kernel
theorem dX6_digest_25 : decode cX6_digest 25 = .ok (.iinc 3 1, 3) := by decide +kernel
theorem dX6_digest_28 : decode cX6_digest 28 = .ok (.goto (-22), 3) := by decide +kernel
theorem dX6_digest_31 : decode cX6_digest 31 = .ok (.iconst 0, 1) := by decide +kernel
theorem dX6_digest_32 : decode cX6_digest 32 = .ok (.istore_n 3, 1) := by decide +kernel
theorem dX6_digest_33 : decode cX6_digest 33 = .ok (.iload_n 3, 1) := by decide +kernel
theorem dX6_digest_34 : decode cX6_digest 34 = .ok (.iconst 2, 1) := by decide +kernel
theorem dX6_digest_35 : decode cX6_digest 35 = .ok (.if_icmp .gt 22, 3) := by decide +kernel
theorem dX6_digest_38 : decode cX6_digest 38 = .ok (.ldc2_w 289, 3) := by decide +kernel
theorem dX6_digest_41 : decode cX6_digest 41 = .ok (.lload_n 1, 1) := by decide +kernel
theorem dX6_digest_42 : decode cX6_digest 42 = .ok (.lmul, 1) := by decide +kernel
theorem dX6_digest_43 : decode cX6_digest 43 = .ok (.aload_n 0, 1) := by decide +kernel
theorem dX6_digest_44 : decode cX6_digest 44 = .ok (.iload_n 3, 1) := by decide +kernel
theorem dX6_digest_45 : decode cX6_digest 45 = .ok (.invokevirtual 294, 3) := by decide +kernel
theorem dX6_digest_48 : decode cX6_digest 48 = .ok (.i2l, 1) := by decide +kernel
theorem dX6_digest_49 : decode cX6_digest 49 = .ok (.ladd, 1) := by decide +kernel
theorem dX6_digest_50 : decode cX6_digest 50 = .ok (.lstore_n 1, 1) := by decide +kernel
theorem dX6_digest_51 : decode cX6_digest 51 = .ok (.iinc 3 1, 3) := by decide +kernel
theorem dX6_digest_54 : decode cX6_digest 54 = .ok (.goto (-21), 3) := by decide +kernel
theorem dX6_digest_57 : decode cX6_digest 57 = .ok (.iconst 0, 1) := by decide +kernel
theorem dX6_digest_58 : decode cX6_digest 58 = .ok (.istore_n 3, 1) := by decide +kernel
theorem dX6_digest_59 : decode cX6_digest 59 = .ok (.iload_n 3, 1) := by decide +kernel
theorem dX6_digest_60 : decode cX6_digest 60 = .ok (.aload_n 0, 1) := by decide +kernel
theorem dX6_digest_61 : decode cX6_digest 61 = .ok (.getfield 53, 3) := by decide +kernel
theorem dX6_digest_64 : decode cX6_digest 64 = .ok (.getfield 200, 3) := by decide +kernel
theorem dX6_digest_67 : decode cX6_digest 67 = .ok (.if_icmp .ge 16, 3) := by decide +kernel
theorem dX6_digest_70 : decode cX6_digest 70 = .ok (.aload_n 0, 1) := by decide +kernel
theorem dX6_digest_71 : decode cX6_digest 71 = .ok (.lload_n 1, 1) := by decide +kernel
theorem dX6_digest_72 : decode cX6_digest 72 = .ok (.iload_n 3, 1) := by decide +kernel
theorem dX6_digest_73 : decode cX6_digest 73 = .ok (.invokevirtual 297, 3) := by decide +kernel
theorem dX6_digest_76 : decode cX6_digest 76 = .ok (.lstore_n 1, 1) := by decide +kernel
theorem dX6_digest_77 : decode cX6_digest 77 = .ok (.iinc 3 1, 3) := by decide +kernel
theorem dX6_digest_80 : decode cX6_digest 80 = .ok (.goto (-21), 3) := by decide +kernel
theorem dX6_digest_83 : decode cX6_digest 83 = .ok (.iconst 0, 1) := by decide +kernel
theorem dX6_digest_84 : decode cX6_digest 84 = .ok (.istore_n 3, 1) := by decide +kernel
theorem dX6_digest_85 : decode cX6_digest 85 = .ok (.iload_n 3, 1) := by decide +kernel
theorem dX6_digest_86 : decode cX6_digest 86 = .ok (.aload_n 0, 1) := by decide +kernel
theorem dX6_digest_87 : decode cX6_digest 87 = .ok (.getfield 53, 3) := by decide +kernel
theorem dX6_digest_90 : decode cX6_digest 90 = .ok (.getfield 206, 3) := by decide +kernel
theorem dX6_digest_93 : decode cX6_digest 93 = .ok (.if_icmp .ge 16, 3) := by decide +kernel
theorem dX6_digest_96 : decode cX6_digest 96 = .ok (.aload_n 0, 1) := by decide +kernel
theorem dX6_digest_97 : decode cX6_digest 97 = .ok (.lload_n 1, 1) := by decide +kernel
theorem dX6_digest_98 : decode cX6_digest 98 = .ok (.iload_n 3, 1) := by decide +kernel
theorem dX6_digest_99 : decode cX6_digest 99 = .ok (.invokevirtual 301, 3) := by decide +kernel
theorem dX6_digest_102 : decode cX6_digest 102 = .ok (.lstore_n 1, 1) := by decide +kernel
theorem dX6_digest_103 : decode cX6_digest 103 = .ok (.iinc 3 1, 3) := by decide +kernel
theorem dX6_digest_106 : decode cX6_digest 106 = .ok (.goto (-21), 3) := by decide +kernel
theorem dX6_digest_109 : decode cX6_digest 109 = .ok (.iconst 0, 1) := by decide +kernel
theorem dX6_digest_110 : decode cX6_digest 110 = .ok (.istore_n 3, 1) := by decide +kernel
theorem dX6_digest_111 : decode cX6_digest 111 = .ok (.iload_n 3, 1) := by decide +kernel
theorem dX6_digest_112 : decode cX6_digest 112 = .ok (.aload_n 0, 1) := by decide +kernel
theorem dX6_digest_113 : decode cX6_digest 113 = .ok (.getfield 53, 3) := by decide +kernel
theorem dX6_digest_116 : decode cX6_digest 116 = .ok (.getfield 281, 3) := by decide +kernel
theorem dX6_digest_119 : decode cX6_digest 119 = .ok (.if_icmp .ge 39, 3) := by decide +kernel
theorem dX6_digest_122 : decode cX6_digest 122 = .ok (.iconst 0, 1) := by decide +kernel
theorem dX6_digest_123 : decode cX6_digest 123 = .ok (.istore 4, 2) := by decide +kernel
theorem dX6_digest_125 : decode cX6_digest 125 = .ok (.iload 4, 2) := by decide +kernel
theorem dX6_digest_127 : decode cX6_digest 127 = .ok (.iconst 3, 1) := by decide +kernel
theorem dX6_digest_128 : decode cX6_digest 128 = .ok (.if_icmp .gt 24, 3) := by decide +kernel
theorem dX6_digest_131 : decode cX6_digest 131 = .ok (.ldc2_w 289, 3) := by decide +kernel
theorem dX6_digest_134 : decode cX6_digest 134 = .ok (.lload_n 1, 1) := by decide +kernel
theorem dX6_digest_135 : decode cX6_digest 135 = .ok (.lmul, 1) := by decide +kernel
theorem dX6_digest_136 : decode cX6_digest 136 = .ok (.aload_n 0, 1) := by decide +kernel
theorem dX6_digest_137 : decode cX6_digest 137 = .ok (.iload_n 3, 1) := by decide +kernel
theorem dX6_digest_138 : decode cX6_digest 138 = .ok (.iload 4, 2) := by decide +kernel
theorem dX6_digest_140 : decode cX6_digest 140 = .ok (.invokevirtual 304, 3) := by decide +kernel
theorem dX6_digest_143 : decode cX6_digest 143 = .ok (.i2l, 1) := by decide +kernel
theorem dX6_digest_144 : decode cX6_digest 144 = .ok (.ladd, 1) := by decide +kernel
theorem dX6_digest_145 : decode cX6_digest 145 = .ok (.lstore_n 1, 1) := by decide +kernel
theorem dX6_digest_146 : decode cX6_digest 146 = .ok (.iinc 4 1, 3) := by decide +kernel
theorem dX6_digest_149 : decode cX6_digest 149 = .ok (.goto (-24), 3) := by decide +kernel
theorem dX6_digest_152 : decode cX6_digest 152 = .ok (.iinc 3 1, 3) := by decide +kernel
theorem dX6_digest_155 : decode cX6_digest 155 = .ok (.goto (-44), 3) := by decide +kernel
theorem dX6_digest_158 : decode cX6_digest 158 = .ok (.aload_n 0, 1) := by decide +kernel
theorem dX6_digest_159 : decode cX6_digest 159 = .ok (.lload_n 1, 1) := by decide +kernel
theorem dX6_digest_160 : decode cX6_digest 160 = .ok (.iconst 0, 1) := by decide +kernel
theorem dX6_digest_161 : decode cX6_digest 161 = .ok (.invokevirtual 307, 3) := by decide +kernel
theorem dX6_digest_164 : decode cX6_digest 164 = .ok (.lstore_n 1, 1) := by decide +kernel
theorem dX6_digest_165 : decode cX6_digest 165 = .ok (.aload_n 0, 1) := by decide +kernel
theorem dX6_digest_166 : decode cX6_digest 166 = .ok (.lload_n 1, 1) := by decide +kernel
theorem dX6_digest_167 : decode cX6_digest 167 = .ok (.bipush 9, 2) := by decide +kernel
theorem dX6_digest_169 : decode cX6_digest 169 = .ok (.invokevirtual 307, 3) := by decide +kernel
theorem dX6_digest_172 : decode cX6_digest 172 = .ok (.lstore_n 1, 1) := by decide +kernel
theorem dX6_digest_173 : decode cX6_digest 173 = .ok (.aload_n 0, 1) := by decide +kernel
theorem dX6_digest_174 : decode cX6_digest 174 = .ok (.lload_n 1, 1) := by decide +kernel
theorem dX6_digest_175 : decode cX6_digest 175 = .ok (.bipush 29, 2) := by decide +kernel
theorem dX6_digest_177 : decode cX6_digest 177 = .ok (.invokevirtual 307, 3) := by decide +kernel
theorem dX6_digest_180 : decode cX6_digest 180 = .ok (.lstore_n 1, 1) := by decide +kernel
theorem dX6_digest_181 : decode cX6_digest 181 = .ok (.ldc2_w 289, 3) := by decide +kernel
theorem dX6_digest_184 : decode cX6_digest 184 = .ok (.lload_n 1, 1) := by decide +kernel
theorem dX6_digest_185 : decode cX6_digest 185 = .ok (.lmul, 1) := by decide +kernel
theorem dX6_digest_186 : decode cX6_digest 186 = .ok (.aload_n 0, 1) := by decide +kernel
theorem dX6_digest_187 : decode cX6_digest 187 = .ok (.iconst 0, 1) := by decide +kernel
theorem dX6_digest_188 : decode cX6_digest 188 = .ok (.invokevirtual 310, 3) := by decide +kernel
theorem dX6_digest_191 : decode cX6_digest 191 = .ok (.i2l, 1) := by decide +kernel
theorem dX6_digest_192 : decode cX6_digest 192 = .ok (.ladd, 1) := by decide +kernel
theorem dX6_digest_193 : decode cX6_digest 193 = .ok (.lstore_n 1, 1) := by decide +kernel
theorem dX6_digest_194 : decode cX6_digest 194 = .ok (.ldc2_w 289, 3) := by decide +kernel
theorem dX6_digest_197 : decode cX6_digest 197 = .ok (.lload_n 1, 1) := by decide +kernel
theorem dX6_digest_198 : decode cX6_digest 198 = .ok (.lmul, 1) := by decide +kernel
theorem dX6_digest_199 : decode cX6_digest 199 = .ok (.aload_n 0, 1) := by decide +kernel
theorem dX6_digest_200 : decode cX6_digest 200 = .ok (.iconst 1, 1) := by decide +kernel
theorem dX6_digest_201 : decode cX6_digest 201 = .ok (.invokevirtual 310, 3) := by decide +kernel
theorem dX6_digest_204 : decode cX6_digest 204 = .ok (.i2l, 1) := by decide +kernel
theorem dX6_digest_205 : decode cX6_digest 205 = .ok (.ladd, 1) := by decide +kernel
theorem dX6_digest_206 : decode cX6_digest 206 = .ok (.lstore_n 1, 1) := by decide +kernel
theorem dX6_digest_207 : decode cX6_digest 207 = .ok (.ldc2_w 289, 3) := by decide +kernel
theorem dX6_digest_210 : decode cX6_digest 210 = .ok (.lload_n 1, 1) := by decide +kernel
theorem dX6_digest_211 : decode cX6_digest 211 = .ok (.lmul, 1) := by decide +kernel
theorem dX6_digest_212 : decode cX6_digest 212 = .ok (.aload_n 0, 1) := by decide +kernel
theorem dX6_digest_213 : decode cX6_digest 213 = .ok (.invokevirtual 313, 3) := by decide +kernel
theorem dX6_digest_216 : decode cX6_digest 216 = .ok (.i2l, 1) := by decide +kernel
theorem dX6_digest_217 : decode cX6_digest 217 = .ok (.ladd, 1) := by decide +kernel
theorem dX6_digest_218 : decode cX6_digest 218 = .ok (.lstore_n 1, 1) := by decide +kernel
theorem dX6_digest_219 : decode cX6_digest 219 = .ok (.ldc2_w 289, 3) := by decide +kernel
theorem dX6_digest_222 : decode cX6_digest 222 = .ok (.lload_n 1, 1) := by decide +kernel
theorem dX6_digest_223 : decode cX6_digest 223 = .ok (.lmul, 1) := by decide +kernel
theorem dX6_digest_224 : decode cX6_digest 224 = .ok (.aload_n 0, 1) := by decide +kernel
theorem dX6_digest_225 : decode cX6_digest 225 = .ok (.iconst 0, 1) := by decide +kernel
theorem dX6_digest_226 : decode cX6_digest 226 = .ok (.invokevirtual 316, 3) := by decide +kernel
theorem dX6_digest_229 : decode cX6_digest 229 = .ok (.i2l, 1) := by decide +kernel
theorem dX6_digest_230 : decode cX6_digest 230 = .ok (.ladd, 1) := by decide +kernel
theorem dX6_digest_231 : decode cX6_digest 231 = .ok (.lstore_n 1, 1) := by decide +kernel
theorem dX6_digest_232 : decode cX6_digest 232 = .ok (.ldc2_w 289, 3) := by decide +kernel
theorem dX6_digest_235 : decode cX6_digest 235 = .ok (.lload_n 1, 1) := by decide +kernel
theorem dX6_digest_236 : decode cX6_digest 236 = .ok (.lmul, 1) := by decide +kernel
theorem dX6_digest_237 : decode cX6_digest 237 = .ok (.aload_n 0, 1) := by decide +kernel
theorem dX6_digest_238 : decode cX6_digest 238 = .ok (.iconst 1, 1) := by decide +kernel
theorem dX6_digest_239 : decode cX6_digest 239 = .ok (.invokevirtual 316, 3) := by decide +kernel
theorem dX6_digest_242 : decode cX6_digest 242 = .ok (.i2l, 1) := by decide +kernel
theorem dX6_digest_243 : decode cX6_digest 243 = .ok (.ladd, 1) := by decide +kernel
theorem dX6_digest_244 : decode cX6_digest 244 = .ok (.lstore_n 1, 1) := by decide +kernel
theorem dX6_digest_245 : decode cX6_digest 245 = .ok (.ldc2_w 289, 3) := by decide +kernel
theorem dX6_digest_248 : decode cX6_digest 248 = .ok (.lload_n 1, 1) := by decide +kernel
theorem dX6_digest_249 : decode cX6_digest 249 = .ok (.lmul, 1) := by decide +kernel
theorem dX6_digest_250 : decode cX6_digest 250 = .ok (.aload_n 0, 1) := by decide +kernel
theorem dX6_digest_251 : decode cX6_digest 251 = .ok (.invokevirtual 319, 3) := by decide +kernel
theorem dX6_digest_254 : decode cX6_digest 254 = .ok (.i2l, 1) := by decide +kernel
theorem dX6_digest_255 : decode cX6_digest 255 = .ok (.ladd, 1) := by decide +kernel
theorem dX6_digest_256 : decode cX6_digest 256 = .ok (.lreturn, 1) := by decide +kernel
theorem dX6_withShip_0 : decode cX6_withShip 0 = .ok (.lload_n 1, 1) := by decide +kernel
theorem dX6_withShip_1 : decode cX6_withShip 1 = .ok (.lstore 4, 2) := by decide +kernel
theorem dX6_withShip_3 : decode cX6_withShip 3 = .ok (.ldc2_w 289, 3) := by decide +kernel
theorem dX6_withShip_6 : decode cX6_withShip 6 = .ok (.lload 4, 2) := by decide +kernel
theorem dX6_withShip_8 : decode cX6_withShip 8 = .ok (.lmul, 1) := by decide +kernel
theorem dX6_withShip_9 : decode cX6_withShip 9 = .ok (.aload_n 0, 1) := by decide +kernel
theorem dX6_withShip_10 : decode cX6_withShip 10 = .ok (.iload_n 3, 1) := by decide +kernel
theorem dX6_withShip_11 : decode cX6_withShip 11 = .ok (.iconst 0, 1) := by decide +kernel
theorem dX6_withShip_12 : decode cX6_withShip 12 = .ok (.invokevirtual 322, 3) := by decide +kernel
theorem dX6_withShip_15 : decode cX6_withShip 15 = .ok (.i2l, 1) := by decide +kernel
theorem dX6_withShip_16 : decode cX6_withShip 16 = .ok (.ladd, 1) := by decide +kernel
theorem dX6_withShip_17 : decode cX6_withShip 17 = .ok (.lstore 4, 2) := by decide +kernel
theorem dX6_withShip_19 : decode cX6_withShip 19 = .ok (.ldc2_w 289, 3) := by decide +kernel
theorem dX6_withShip_22 : decode cX6_withShip 22 = .ok (.lload 4, 2) := by decide +kernel
theorem dX6_withShip_24 : decode cX6_withShip 24 = .ok (.lmul, 1) := by decide +kernel
theorem dX6_withShip_25 : decode cX6_withShip 25 = .ok (.aload_n 0, 1) := by decide +kernel
theorem dX6_withShip_26 : decode cX6_withShip 26 = .ok (.iload_n 3, 1) := by decide +kernel
theorem dX6_withShip_27 : decode cX6_withShip 27 = .ok (.iconst 1, 1) := by decide +kernel
theorem dX6_withShip_28 : decode cX6_withShip 28 = .ok (.invokevirtual 322, 3) := by decide +kernel
theorem dX6_withShip_31 : decode cX6_withShip 31 = .ok (.i2l, 1) := by decide +kernel
theorem dX6_withShip_32 : decode cX6_withShip 32 = .ok (.ladd, 1) := by decide +kernel
theorem dX6_withShip_33 : decode cX6_withShip 33 = .ok (.lstore 4, 2) := by decide +kernel
theorem dX6_withShip_35 : decode cX6_withShip 35 = .ok (.ldc2_w 289, 3) := by decide +kernel
theorem dX6_withShip_38 : decode cX6_withShip 38 = .ok (.lload 4, 2) := by decide +kernel
theorem dX6_withShip_40 : decode cX6_withShip 40 = .ok (.lmul, 1) := by decide +kernel
theorem dX6_withShip_41 : decode cX6_withShip 41 = .ok (.aload_n 0, 1) := by decide +kernel
theorem dX6_withShip_42 : decode cX6_withShip 42 = .ok (.iload_n 3, 1) := by decide +kernel
theorem dX6_withShip_43 : decode cX6_withShip 43 = .ok (.invokevirtual 325, 3) := by decide +kernel
theorem dX6_withShip_46 : decode cX6_withShip 46 = .ok (.i2l, 1) := by decide +kernel
theorem dX6_withShip_47 : decode cX6_withShip 47 = .ok (.ladd, 1) := by decide +kernel
theorem dX6_withShip_48 : decode cX6_withShip 48 = .ok (.lstore 4, 2) := by decide +kernel
theorem dX6_withShip_50 : decode cX6_withShip 50 = .ok (.ldc2_w 289, 3) := by decide +kernel
theorem dX6_withShip_53 : decode cX6_withShip 53 = .ok (.lload 4, 2) := by decide +kernel
theorem dX6_withShip_55 : decode cX6_withShip 55 = .ok (.lmul, 1) := by decide +kernel
theorem dX6_withShip_56 : decode cX6_withShip 56 = .ok (.aload_n 0, 1) := by decide +kernel
theorem dX6_withShip_57 : decode cX6_withShip 57 = .ok (.iload_n 3, 1) := by decide +kernel
theorem dX6_withShip_58 : decode cX6_withShip 58 = .ok (.iconst 0, 1) := by decide +kernel
theorem dX6_withShip_59 : decode cX6_withShip 59 = .ok (.invokevirtual 328, 3) := by decide +kernel
theorem dX6_withShip_62 : decode cX6_withShip 62 = .ok (.i2l, 1) := by decide +kernel
theorem dX6_withShip_63 : decode cX6_withShip 63 = .ok (.ladd, 1) := by decide +kernel
theorem dX6_withShip_64 : decode cX6_withShip 64 = .ok (.lstore 4, 2) := by decide +kernel
theorem dX6_withShip_66 : decode cX6_withShip 66 = .ok (.ldc2_w 289, 3) := by decide +kernel
theorem dX6_withShip_69 : decode cX6_withShip 69 = .ok (.lload 4, 2) := by decide +kernel
theorem dX6_withShip_71 : decode cX6_withShip 71 = .ok (.lmul, 1) := by decide +kernel
theorem dX6_withShip_72 : decode cX6_withShip 72 = .ok (.aload_n 0, 1) := by decide +kernel
theorem dX6_withShip_73 : decode cX6_withShip 73 = .ok (.bipush 9, 2) := by decide +kernel
theorem dX6_withShip_75 : decode cX6_withShip 75 = .ok (.iload_n 3, 1) := by decide +kernel
theorem dX6_withShip_76 : decode cX6_withShip 76 = .ok (.invokevirtual 331, 3) := by decide +kernel
theorem dX6_withShip_79 : decode cX6_withShip 79 = .ok (.i2l, 1) := by decide +kernel
theorem dX6_withShip_80 : decode cX6_withShip 80 = .ok (.ladd, 1) := by decide +kernel
theorem dX6_withShip_81 : decode cX6_withShip 81 = .ok (.lstore 4, 2) := by decide +kernel
theorem dX6_withShip_83 : decode cX6_withShip 83 = .ok (.ldc2_w 289, 3) := by decide +kernel
theorem dX6_withShip_86 : decode cX6_withShip 86 = .ok (.lload 4, 2) := by decide +kernel
theorem dX6_withShip_88 : decode cX6_withShip 88 = .ok (.lmul, 1) := by decide +kernel
theorem dX6_withShip_89 : decode cX6_withShip 89 = .ok (.aload_n 0, 1) := by decide +kernel
theorem dX6_withShip_90 : decode cX6_withShip 90 = .ok (.iload_n 3, 1) := by decide +kernel
theorem dX6_withShip_91 : decode cX6_withShip 91 = .ok (.invokevirtual 333, 3) := by decide +kernel
theorem dX6_withShip_94 : decode cX6_withShip 94 = .ok (.i2l, 1) := by decide +kernel
theorem dX6_withShip_95 : decode cX6_withShip 95 = .ok (.ladd, 1) := by decide +kernel
theorem dX6_withShip_96 : decode cX6_withShip 96 = .ok (.lreturn, 1) := by decide +kernel
theorem dX6_withName_0 : decode cX6_withName 0 = .ok (.lload_n 1, 1) := by decide +kernel
theorem dX6_withName_1 : decode cX6_withName 1 = .ok (.lstore 4, 2) := by decide +kernel
theorem dX6_withName_3 : decode cX6_withName 3 = .ok (.iconst 0, 1) := by decide +kernel
theorem dX6_withName_4 : decode cX6_withName 4 = .ok (.istore 6, 2) := by decide +kernel
theorem dX6_withName_6 : decode cX6_withName 6 = .ok (.iload 6, 2) := by decide +kernel
theorem dX6_withName_8 : decode cX6_withName 8 = .ok (.iconst 2, 1) := by decide +kernel
theorem dX6_withName_9 : decode cX6_withName 9 = .ok (.if_icmp .gt 26, 3) := by decide +kernel
theorem dX6_withName_12 : decode cX6_withName 12 = .ok (.ldc2_w 289, 3) := by decide +kernel
theorem dX6_withName_15 : decode cX6_withName 15 = .ok (.lload 4, 2) := by decide +kernel
theorem dX6_withName_17 : decode cX6_withName 17 = .ok (.lmul, 1) := by decide +kernel
theorem dX6_withName_18 : decode cX6_withName 18 = .ok (.aload_n 0, 1) := by decide +kernel
theorem dX6_withName_19 : decode cX6_withName 19 = .ok (.iload_n 3, 1) := by decide +kernel
theorem dX6_withName_20 : decode cX6_withName 20 = .ok (.iload 6, 2) := by decide +kernel
theorem dX6_withName_22 : decode cX6_withName 22 = .ok (.invokevirtual 336, 3) := by decide +kernel
theorem dX6_withName_25 : decode cX6_withName 25 = .ok (.i2l, 1) := by decide +kernel
theorem dX6_withName_26 : decode cX6_withName 26 = .ok (.ladd, 1) := by decide +kernel
theorem dX6_withName_27 : decode cX6_withName 27 = .ok (.lstore 4, 2) := by decide +kernel
theorem dX6_withName_29 : decode cX6_withName 29 = .ok (.iinc 6 1, 3) := by decide +kernel
theorem dX6_withName_32 : decode cX6_withName 32 = .ok (.goto (-26), 3) := by decide +kernel
theorem dX6_withName_35 : decode cX6_withName 35 = .ok (.iconst 0, 1) := by decide +kernel
theorem dX6_withName_36 : decode cX6_withName 36 = .ok (.istore 6, 2) := by decide +kernel
theorem dX6_withName_38 : decode cX6_withName 38 = .ok (.iload 6, 2) := by decide +kernel
theorem dX6_withName_40 : decode cX6_withName 40 = .ok (.iconst 2, 1) := by decide +kernel
theorem dX6_withName_41 : decode cX6_withName 41 = .ok (.if_icmp .gt 26, 3) := by decide +kernel
theorem dX6_withName_44 : decode cX6_withName 44 = .ok (.ldc2_w 289, 3) := by decide +kernel
theorem dX6_withName_47 : decode cX6_withName 47 = .ok (.lload 4, 2) := by decide +kernel
theorem dX6_withName_49 : decode cX6_withName 49 = .ok (.lmul, 1) := by decide +kernel
theorem dX6_withName_50 : decode cX6_withName 50 = .ok (.aload_n 0, 1) := by decide +kernel
theorem dX6_withName_51 : decode cX6_withName 51 = .ok (.iload_n 3, 1) := by decide +kernel
theorem dX6_withName_52 : decode cX6_withName 52 = .ok (.iload 6, 2) := by decide +kernel
theorem dX6_withName_54 : decode cX6_withName 54 = .ok (.invokevirtual 339, 3) := by decide +kernel
theorem dX6_withName_57 : decode cX6_withName 57 = .ok (.i2l, 1) := by decide +kernel
theorem dX6_withName_58 : decode cX6_withName 58 = .ok (.ladd, 1) := by decide +kernel
theorem dX6_withName_59 : decode cX6_withName 59 = .ok (.lstore 4, 2) := by decide +kernel
theorem dX6_withName_61 : decode cX6_withName 61 = .ok (.iinc 6 1, 3) := by decide +kernel
theorem dX6_withName_64 : decode cX6_withName 64 = .ok (.goto (-26), 3) := by decide +kernel
theorem dX6_withName_67 : decode cX6_withName 67 = .ok (.ldc2_w 289, 3) := by decide +kernel
theorem dX6_withName_70 : decode cX6_withName 70 = .ok (.lload 4, 2) := by decide +kernel
theorem dX6_withName_72 : decode cX6_withName 72 = .ok (.lmul, 1) := by decide +kernel
theorem dX6_withName_73 : decode cX6_withName 73 = .ok (.aload_n 0, 1) := by decide +kernel
theorem dX6_withName_74 : decode cX6_withName 74 = .ok (.bipush 9, 2) := by decide +kernel
theorem dX6_withName_76 : decode cX6_withName 76 = .ok (.iload_n 3, 1) := by decide +kernel
theorem dX6_withName_77 : decode cX6_withName 77 = .ok (.invokevirtual 341, 3) := by decide +kernel
theorem dX6_withName_80 : decode cX6_withName 80 = .ok (.i2l, 1) := by decide +kernel
theorem dX6_withName_81 : decode cX6_withName 81 = .ok (.ladd, 1) := by decide +kernel
theorem dX6_withName_82 : decode cX6_withName 82 = .ok (.lstore 4, 2) := by decide +kernel
theorem dX6_withName_84 : decode cX6_withName 84 = .ok (.ldc2_w 289, 3) := by decide +kernel
theorem dX6_withName_87 : decode cX6_withName 87 = .ok (.lload 4, 2) := by decide +kernel
theorem dX6_withName_89 : decode cX6_withName 89 = .ok (.lmul, 1) := by decide +kernel
theorem dX6_withName_90 : decode cX6_withName 90 = .ok (.aload_n 0, 1) := by decide +kernel
theorem dX6_withName_91 : decode cX6_withName 91 = .ok (.iconst 0, 1) := by decide +kernel
theorem dX6_withName_92 : decode cX6_withName 92 = .ok (.iload_n 3, 1) := by decide +kernel
theorem dX6_withName_93 : decode cX6_withName 93 = .ok (.invokevirtual 343, 3) := by decide +kernel
theorem dX6_withName_96 : decode cX6_withName 96 = .ok (.i2l, 1) := by decide +kernel
theorem dX6_withName_97 : decode cX6_withName 97 = .ok (.ladd, 1) := by decide +kernel
theorem dX6_withName_98 : decode cX6_withName 98 = .ok (.lstore 4, 2) := by decide +kernel
theorem dX6_withName_100 : decode cX6_withName 100 = .ok (.ldc2_w 289, 3) := by decide +kernel
theorem dX6_withName_103 : decode cX6_withName 103 = .ok (.lload 4, 2) := by decide +kernel
theorem dX6_withName_105 : decode cX6_withName 105 = .ok (.lmul, 1) := by decide +kernel
theorem dX6_withName_106 : decode cX6_withName 106 = .ok (.aload_n 0, 1) := by decide +kernel
theorem dX6_withName_107 : decode cX6_withName 107 = .ok (.iload_n 3, 1) := by decide +kernel
theorem dX6_withName_108 : decode cX6_withName 108 = .ok (.iconst 0, 1) := by decide +kernel
theorem dX6_withName_109 : decode cX6_withName 109 = .ok (.invokevirtual 346, 3) := by decide +kernel
theorem dX6_withName_112 : decode cX6_withName 112 = .ok (.ladd, 1) := by decide +kernel
theorem dX6_withName_113 : decode cX6_withName 113 = .ok (.lstore 4, 2) := by decide +kernel
theorem dX6_withName_115 : decode cX6_withName 115 = .ok (.ldc2_w 289, 3) := by decide +kernel
theorem dX6_withName_118 : decode cX6_withName 118 = .ok (.lload 4, 2) := by decide +kernel
theorem dX6_withName_120 : decode cX6_withName 120 = .ok (.lmul, 1) := by decide +kernel
theorem dX6_withName_121 : decode cX6_withName 121 = .ok (.aload_n 0, 1) := by decide +kernel
theorem dX6_withName_122 : decode cX6_withName 122 = .ok (.iload_n 3, 1) := by decide +kernel
theorem dX6_withName_123 : decode cX6_withName 123 = .ok (.iconst 1, 1) := by decide +kernel
theorem dX6_withName_124 : decode cX6_withName 124 = .ok (.invokevirtual 346, 3) := by decide +kernel
theorem dX6_withName_127 : decode cX6_withName 127 = .ok (.ladd, 1) := by decide +kernel
theorem dX6_withName_128 : decode cX6_withName 128 = .ok (.lstore 4, 2) := by decide +kernel
theorem dX6_withName_130 : decode cX6_withName 130 = .ok (.ldc2_w 289, 3) := by decide +kernel
theorem dX6_withName_133 : decode cX6_withName 133 = .ok (.lload 4, 2) := by decide +kernel
theorem dX6_withName_135 : decode cX6_withName 135 = .ok (.lmul, 1) := by decide +kernel
theorem dX6_withName_136 : decode cX6_withName 136 = .ok (.aload_n 0, 1) := by decide +kernel
theorem dX6_withName_137 : decode cX6_withName 137 = .ok (.iload_n 3, 1) := by decide +kernel
theorem dX6_withName_138 : decode cX6_withName 138 = .ok (.bipush 9, 2) := by decide +kernel
theorem dX6_withName_140 : decode cX6_withName 140 = .ok (.iconst 0, 1) := by decide +kernel
theorem dX6_withName_141 : decode cX6_withName 141 = .ok (.invokevirtual 350, 3) := by decide +kernel
theorem dX6_withName_144 : decode cX6_withName 144 = .ok (.ladd, 1) := by decide +kernel
theorem dX6_withName_145 : decode cX6_withName 145 = .ok (.lstore 4, 2) := by decide +kernel
theorem dX6_withName_147 : decode cX6_withName 147 = .ok (.ldc2_w 289, 3) := by decide +kernel
theorem dX6_withName_150 : decode cX6_withName 150 = .ok (.lload 4, 2) := by decide +kernel
theorem dX6_withName_152 : decode cX6_withName 152 = .ok (.lmul, 1) := by decide +kernel
theorem dX6_withName_153 : decode cX6_withName 153 = .ok (.aload_n 0, 1) := by decide +kernel
theorem dX6_withName_154 : decode cX6_withName 154 = .ok (.iload_n 3, 1) := by decide +kernel
theorem dX6_withName_155 : decode cX6_withName 155 = .ok (.bipush 9, 2) := by decide +kernel
theorem dX6_withName_157 : decode cX6_withName 157 = .ok (.iconst 1, 1) := by decide +kernel
theorem dX6_withName_158 : decode cX6_withName 158 = .ok (.invokevirtual 350, 3) := by decide +kernel
theorem dX6_withName_161 : decode cX6_withName 161 = .ok (.ladd, 1) := by decide +kernel
theorem dX6_withName_162 : decode cX6_withName 162 = .ok (.lstore 4, 2) := by decide +kernel
theorem dX6_withName_164 : decode cX6_withName 164 = .ok (.ldc2_w 289, 3) := by decide +kernel
theorem dX6_withName_167 : decode cX6_withName 167 = .ok (.lload 4, 2) := by decide +kernel
theorem dX6_withName_169 : decode cX6_withName 169 = .ok (.lmul, 1) := by decide +kernel
theorem dX6_withName_170 : decode cX6_withName 170 = .ok (.aload_n 0, 1) := by decide +kernel
theorem dX6_withName_171 : decode cX6_withName 171 = .ok (.bipush 7, 2) := by decide +kernel
theorem dX6_withName_173 : decode cX6_withName 173 = .ok (.bipush 9, 2) := by decide +kernel
theorem dX6_withName_175 : decode cX6_withName 175 = .ok (.iload_n 3, 1) := by decide +kernel
theorem dX6_withName_176 : decode cX6_withName 176 = .ok (.iconst 0, 1) := by decide +kernel
theorem dX6_withName_177 : decode cX6_withName 177 = .ok (.invokevirtual 353, 3) := by decide +kernel
theorem dX6_withName_180 : decode cX6_withName 180 = .ok (.i2l, 1) := by decide +kernel
theorem dX6_withName_181 : decode cX6_withName 181 = .ok (.ladd, 1) := by decide +kernel
theorem dX6_withName_182 : decode cX6_withName 182 = .ok (.lstore 4, 2) := by decide +kernel
theorem dX6_withName_184 : decode cX6_withName 184 = .ok (.ldc2_w 289, 3) := by decide +kernel
theorem dX6_withName_187 : decode cX6_withName 187 = .ok (.lload 4, 2) := by decide +kernel
theorem dX6_withName_189 : decode cX6_withName 189 = .ok (.lmul, 1) := by decide +kernel
theorem dX6_withName_190 : decode cX6_withName 190 = .ok (.aload_n 0, 1) := by decide +kernel
theorem dX6_withName_191 : decode cX6_withName 191 = .ok (.bipush 7, 2) := by decide +kernel
theorem dX6_withName_193 : decode cX6_withName 193 = .ok (.bipush 9, 2) := by decide +kernel
theorem dX6_withName_195 : decode cX6_withName 195 = .ok (.iload_n 3, 1) := by decide +kernel
theorem dX6_withName_196 : decode cX6_withName 196 = .ok (.iconst 1, 1) := by decide +kernel
theorem dX6_withName_197 : decode cX6_withName 197 = .ok (.invokevirtual 353, 3) := by decide +kernel
theorem dX6_withName_200 : decode cX6_withName 200 = .ok (.i2l, 1) := by decide +kernel
theorem dX6_withName_201 : decode cX6_withName 201 = .ok (.ladd, 1) := by decide +kernel
theorem dX6_withName_202 : decode cX6_withName 202 = .ok (.lreturn, 1) := by decide +kernel
theorem dX6_withYear_0 : decode cX6_withYear 0 = .ok (.ldc2_w 289, 3) := by decide +kernel
theorem dX6_withYear_3 : decode cX6_withYear 3 = .ok (.lload_n 1, 1) := by decide +kernel
theorem dX6_withYear_4 : decode cX6_withYear 4 = .ok (.lmul, 1) := by decide +kernel
theorem dX6_withYear_5 : decode cX6_withYear 5 = .ok (.aload_n 0, 1) := by decide +kernel
theorem dX6_withYear_6 : decode cX6_withYear 6 = .ok (.iload_n 3, 1) := by decide +kernel
