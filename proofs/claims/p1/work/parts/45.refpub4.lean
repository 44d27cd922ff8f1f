theorem dX12_judge_0 : decode cX12_judge 0 = .ok (.aload_n 0, 1) := by decide +kernel
theorem dX12_judge_1 : decode cX12_judge 1 = .ok (.iconst 0, 1) := by decide +kernel
theorem dX12_judge_2 : decode cX12_judge 2 = .ok (.putfield 82, 3) := by decide +kernel
theorem dX12_judge_5 : decode cX12_judge 5 = .ok (.aload_n 0, 1) := by decide +kernel
theorem dX12_judge_6 : decode cX12_judge 6 = .ok (.iload_n 2, 1) := by decide +kernel
theorem dX12_judge_7 : decode cX12_judge 7 = .ok (.invokevirtual 513, 3) := by decide +kernel
theorem dX12_judge_10 : decode cX12_judge 10 = .ok (.ifCond .eq 34, 3) := by decide +kernel
theorem dX12_judge_13 : decode cX12_judge 13 = .ok (.aload_n 0, 1) := by decide +kernel
theorem dX12_judge_14 : decode cX12_judge 14 = .ok (.getfield 504, 3) := by decide +kernel
theorem dX12_judge_17 : decode cX12_judge 17 = .ok (.ifCond .eq 27, 3) := by decide +kernel
theorem dX12_judge_44 : decode cX12_judge 44 = .ok (.iconst (-1), 1) := by decide +kernel
theorem dX12_judge_45 : decode cX12_judge 45 = .ok (.goto 9, 3) := by decide +kernel
theorem dX12_judge_54 : decode cX12_judge 54 = .ok (.ireturn, 1) := by decide +kernel
theorem dX12_beside_0 : decode cX12_beside 0 = .ok (.aload_n 0, 1) := by decide +kernel
theorem dX12_beside_1 : decode cX12_beside 1 = .ok (.iconst 0, 1) := by decide +kernel
theorem dX12_beside_2 : decode cX12_beside 2 = .ok (.putfield 82, 3) := by decide +kernel
theorem dX12_beside_5 : decode cX12_beside 5 = .ok (.aload_n 0, 1) := by decide +kernel
theorem dX12_beside_6 : decode cX12_beside 6 = .ok (.iload_n 1, 1) := by decide +kernel
theorem dX12_beside_7 : decode cX12_beside 7 = .ok (.invokevirtual 513, 3) := by decide +kernel
theorem dX12_beside_10 : decode cX12_beside 10 = .ok (.ifCond .eq 14, 3) := by decide +kernel
theorem dX12_beside_13 : decode cX12_beside 13 = .ok (.aload_n 0, 1) := by decide +kernel
theorem dX12_beside_14 : decode cX12_beside 14 = .ok (.getfield 8, 3) := by decide +kernel
theorem dX12_beside_17 : decode cX12_beside 17 = .ok (.iconst 3, 1) := by decide +kernel
theorem dX12_beside_18 : decode cX12_beside 18 = .ok (.iaload, 1) := by decide +kernel
theorem dX12_beside_19 : decode cX12_beside 19 = .ok (.bipush 20, 2) := by decide +kernel
theorem dX12_beside_21 : decode cX12_beside 21 = .ok (.if_icmp .ne 12, 3) := by decide +kernel
theorem dX12_beside_33 : decode cX12_beside 33 = .ok (.aload_n 0, 1) := by decide +kernel
theorem dX12_beside_34 : decode cX12_beside 34 = .ok (.invokevirtual 507, 3) := by decide +kernel
theorem dX12_keepPaper_0 : decode cX12_keepPaper 0 = .ok (.iconst 0, 1) := by decide +kernel
theorem dX12_keepPaper_1 : decode cX12_keepPaper 1 = .ok (.istore_n 1, 1) := by decide +kernel
theorem dX12_keepPaper_2 : decode cX12_keepPaper 2 = .ok (.iload_n 1, 1) := by decide +kernel
theorem dX12_keepPaper_3 : decode cX12_keepPaper 3 = .ok (.ldc 7, 2) := by decide +kernel
theorem dX12_keepPaper_5 : decode cX12_keepPaper 5 = .ok (.if_icmp .ge 21, 3) := by decide +kernel
theorem dX12_keepPaper_26 : decode cX12_keepPaper 26 = .ok (.return_, 1) := by decide +kernel
theorem dX12_keepPaper_8 : decode cX12_keepPaper 8 = .ok (.aload_n 0, 1) := by decide +kernel
theorem dX12_keepPaper_9 : decode cX12_keepPaper 9 = .ok (.getfield 18, 3) := by decide +kernel
theorem dX12_keepPaper_12 : decode cX12_keepPaper 12 = .ok (.iload_n 1, 1) := by decide +kernel
theorem dX12_keepPaper_13 : decode cX12_keepPaper 13 = .ok (.aload_n 0, 1) := by decide +kernel
theorem dX12_keepPaper_14 : decode cX12_keepPaper 14 = .ok (.getfield 8, 3) := by decide +kernel
theorem dX12_keepPaper_17 : decode cX12_keepPaper 17 = .ok (.iload_n 1, 1) := by decide +kernel
theorem dX12_keepPaper_18 : decode cX12_keepPaper 18 = .ok (.iaload, 1) := by decide +kernel
theorem dX12_keepPaper_19 : decode cX12_keepPaper 19 = .ok (.iastore, 1) := by decide +kernel
theorem dX12_keepPaper_20 : decode cX12_keepPaper 20 = .ok (.iinc 1 1, 3) := by decide +kernel
theorem dX12_keepPaper_23 : decode cX12_keepPaper 23 = .ok (.goto (-21), 3) := by decide +kernel
theorem dX12_beside_37 : decode cX12_beside 37 = .ok (.aload_n 0, 1) := by decide +kernel
theorem dX12_beside_38 : decode cX12_beside 38 = .ok (.aload_n 0, 1) := by decide +kernel
theorem dX12_beside_39 : decode cX12_beside 39 = .ok (.getfield 8, 3) := by decide +kernel
theorem dX12_beside_42 : decode cX12_beside 42 = .ok (.bipush 8, 2) := by decide +kernel
theorem dX12_beside_44 : decode cX12_beside 44 = .ok (.iaload, 1) := by decide +kernel
theorem dX12_beside_45 : decode cX12_beside 45 = .ok (.invokevirtual 385, 3) := by decide +kernel
theorem dX12_beside_48 : decode cX12_beside 48 = .ok (.istore_n 2, 1) := by decide +kernel
theorem dX12_beside_49 : decode cX12_beside 49 = .ok (.aload_n 0, 1) := by decide +kernel
theorem dX12_beside_50 : decode cX12_beside 50 = .ok (.iconst 0, 1) := by decide +kernel
theorem dX12_beside_51 : decode cX12_beside 51 = .ok (.putfield 174, 3) := by decide +kernel
theorem dX12_beside_54 : decode cX12_beside 54 = .ok (.iload_n 2, 1) := by decide +kernel
theorem dX12_beside_55 : decode cX12_beside 55 = .ok (.ifCond .ne 7, 3) := by decide +kernel
theorem dX12_beside_58 : decode cX12_beside 58 = .ok (.ldc2_w 531, 3) := by decide +kernel
theorem dX12_beside_61 : decode cX12_beside 61 = .ok (.lreturn, 1) := by decide +kernel
theorem dX12_beside_24 : decode cX12_beside 24 = .ok (.aload_n 0, 1) := by decide +kernel
theorem dX12_beside_25 : decode cX12_beside 25 = .ok (.iconst 0, 1) := by decide +kernel
theorem dX12_beside_26 : decode cX12_beside 26 = .ok (.putfield 174, 3) := by decide +kernel
theorem dX12_beside_29 : decode cX12_beside 29 = .ok (.ldc2_w 531, 3) := by decide +kernel
theorem dX12_beside_32 : decode cX12_beside 32 = .ok (.lreturn, 1) := by decide +kernel
theorem dX12_seal_0 : decode cX12_seal 0 = .ok (.aload_n 0, 1) := by decide +kernel
theorem dX12_seal_1 : decode cX12_seal 1 = .ok (.iconst 0, 1) := by decide +kernel
theorem dX12_seal_2 : decode cX12_seal 2 = .ok (.putfield 82, 3) := by decide +kernel
theorem dX12_seal_5 : decode cX12_seal 5 = .ok (.aload_n 0, 1) := by decide +kernel
theorem dX12_seal_6 : decode cX12_seal 6 = .ok (.invokevirtual 543, 3) := by decide +kernel
theorem dX12_addFields_0 : decode cX12_addFields 0 = .ok (.aload_n 0, 1) := by decide +kernel
theorem dX12_addFields_1 : decode cX12_addFields 1 = .ok (.iconst 0, 1) := by decide +kernel
theorem dX12_addFields_2 : decode cX12_addFields 2 = .ok (.putfield 537, 3) := by decide +kernel
theorem dX12_addFields_5 : decode cX12_addFields 5 = .ok (.aload_n 0, 1) := by decide +kernel
theorem dX12_addFields_6 : decode cX12_addFields 6 = .ok (.iconst 0, 1) := by decide +kernel
theorem dX12_addFields_7 : decode cX12_addFields 7 = .ok (.putfield 540, 3) := by decide +kernel
theorem dX12_addFields_10 : decode cX12_addFields 10 = .ok (.iconst 0, 1) := by decide +kernel
theorem dX12_addFields_11 : decode cX12_addFields 11 = .ok (.istore_n 1, 1) := by decide +kernel
theorem dX12_addFields_12 : decode cX12_addFields 12 = .ok (.iload_n 1, 1) := by decide +kernel
theorem dX12_addFields_13 : decode cX12_addFields 13 = .ok (.aload_n 0, 1) := by decide +kernel
theorem dX12_addFields_14 : decode cX12_addFields 14 = .ok (.getfield 8, 3) := by decide +kernel
theorem dX12_addFields_17 : decode cX12_addFields 17 = .ok (.iconst 2, 1) := by decide +kernel
theorem dX12_addFields_18 : decode cX12_addFields 18 = .ok (.iaload, 1) := by decide +kernel
theorem dX12_addFields_19 : decode cX12_addFields 19 = .ok (.if_icmp .ge 53, 3) := by decide +kernel
theorem dX12_addFields_72 : decode cX12_addFields 72 = .ok (.return_, 1) := by decide +kernel
theorem dX12_seal_9 : decode cX12_seal 9 = .ok (.aload_n 0, 1) := by decide +kernel
theorem dX12_seal_10 : decode cX12_seal 10 = .ok (.getfield 8, 3) := by decide +kernel
theorem dX12_seal_13 : decode cX12_seal 13 = .ok (.bipush 11, 2) := by decide +kernel
theorem dX12_seal_15 : decode cX12_seal 15 = .ok (.aload_n 0, 1) := by decide +kernel
theorem dX12_seal_16 : decode cX12_seal 16 = .ok (.getfield 8, 3) := by decide +kernel
theorem dX12_seal_19 : decode cX12_seal 19 = .ok (.iconst 2, 1) := by decide +kernel
theorem dX12_seal_20 : decode cX12_seal 20 = .ok (.iaload, 1) := by decide +kernel
theorem dX12_seal_21 : decode cX12_seal 21 = .ok (.iconst 1, 1) := by decide +kernel
theorem dX12_seal_22 : decode cX12_seal 22 = .ok (.iadd, 1) := by decide +kernel
theorem dX12_seal_23 : decode cX12_seal 23 = .ok (.iastore, 1) := by decide +kernel
theorem dX12_seal_24 : decode cX12_seal 24 = .ok (.aload_n 0, 1) := by decide +kernel
theorem dX12_seal_25 : decode cX12_seal 25 = .ok (.getfield 8, 3) := by decide +kernel
theorem dX12_seal_28 : decode cX12_seal 28 = .ok (.bipush 12, 2) := by decide +kernel
theorem dX12_seal_30 : decode cX12_seal 30 = .ok (.aload_n 0, 1) := by decide +kernel
theorem dX12_seal_31 : decode cX12_seal 31 = .ok (.getfield 537, 3) := by decide +kernel
theorem dX12_seal_34 : decode cX12_seal 34 = .ok (.iastore, 1) := by decide +kernel
theorem dX12_seal_35 : decode cX12_seal 35 = .ok (.aload_n 0, 1) := by decide +kernel
theorem dX12_seal_36 : decode cX12_seal 36 = .ok (.getfield 8, 3) := by decide +kernel
theorem dX12_seal_39 : decode cX12_seal 39 = .ok (.bipush 13, 2) := by decide +kernel
theorem dX12_seal_41 : decode cX12_seal 41 = .ok (.aload_n 0, 1) := by decide +kernel
theorem dX12_seal_42 : decode cX12_seal 42 = .ok (.getfield 540, 3) := by decide +kernel
theorem dX12_seal_45 : decode cX12_seal 45 = .ok (.iastore, 1) := by decide +kernel
theorem dX12_seal_46 : decode cX12_seal 46 = .ok (.aload_n 0, 1) := by decide +kernel
theorem dX12_seal_47 : decode cX12_seal 47 = .ok (.getfield 8, 3) := by decide +kernel
theorem dX12_seal_50 : decode cX12_seal 50 = .ok (.iconst 2, 1) := by decide +kernel
theorem dX12_seal_51 : decode cX12_seal 51 = .ok (.iaload, 1) := by decide +kernel
theorem dX12_seal_52 : decode cX12_seal 52 = .ok (.ireturn, 1) := by decide +kernel
theorem dX12_alter_0 : decode cX12_alter 0 = .ok (.aload_n 0, 1) := by decide +kernel
theorem dX12_alter_1 : decode cX12_alter 1 = .ok (.iconst 0, 1) := by decide +kernel
theorem dX12_alter_2 : decode cX12_alter 2 = .ok (.putfield 82, 3) := by decide +kernel
theorem dX12_alter_5 : decode cX12_alter 5 = .ok (.iload_n 2, 1) := by decide +kernel
theorem dX12_alter_6 : decode cX12_alter 6 = .ok (.i2l, 1) := by decide +kernel
theorem dX12_alter_7 : decode cX12_alter 7 = .ok (.lconst 1, 1) := by decide +kernel
theorem dX12_alter_8 : decode cX12_alter 8 = .ok (.ldc2_w 546, 3) := by decide +kernel
theorem dX12_alter_11 : decode cX12_alter 11 = .ok (.invokestatic 90, 3) := by decide +kernel
theorem dX12_alter_14 : decode cX12_alter 14 = .ok (.ifCond .ne 9, 3) := by decide +kernel
theorem dX12_alter_23 : decode cX12_alter 23 = .ok (.aload_n 0, 1) := by decide +kernel
theorem dX12_alter_24 : decode cX12_alter 24 = .ok (.iload_n 1, 1) := by decide +kernel
theorem dX12_alter_25 : decode cX12_alter 25 = .ok (.invokevirtual 141, 3) := by decide +kernel
theorem dX12_alter_28 : decode cX12_alter 28 = .ok (.ifCond .ne 10, 3) := by decide +kernel
theorem dX12_alter_31 : decode cX12_alter 31 = .ok (.aload_n 0, 1) := by decide +kernel
theorem dX12_alter_32 : decode cX12_alter 32 = .ok (.bipush (-2), 2) := by decide +kernel
theorem dX12_alter_34 : decode cX12_alter 34 = .ok (.invokevirtual 94, 3) := by decide +kernel
theorem dX12_alter_37 : decode cX12_alter 37 = .ok (.ireturn, 1) := by decide +kernel
theorem dX12_alter_17 : decode cX12_alter 17 = .ok (.aload_n 0, 1) := by decide +kernel
theorem dX12_alter_18 : decode cX12_alter 18 = .ok (.iconst (-1), 1) := by decide +kernel
theorem dX12_alter_19 : decode cX12_alter 19 = .ok (.invokevirtual 94, 3) := by decide +kernel
theorem dX12_alter_22 : decode cX12_alter 22 = .ok (.ireturn, 1) := by decide +kernel
theorem dX12_found_0 : decode cX12_found 0 = .ok (.aload_n 0, 1) := by decide +kernel
theorem dX12_found_1 : decode cX12_found 1 = .ok (.iconst 0, 1) := by decide +kernel
theorem dX12_found_2 : decode cX12_found 2 = .ok (.putfield 82, 3) := by decide +kernel
theorem dX12_found_5 : decode cX12_found 5 = .ok (.aload_n 0, 1) := by decide +kernel
theorem dX12_found_6 : decode cX12_found 6 = .ok (.getfield 8, 3) := by decide +kernel
theorem dX12_found_9 : decode cX12_found 9 = .ok (.bipush 11, 2) := by decide +kernel
theorem dX12_found_11 : decode cX12_found 11 = .ok (.iaload, 1) := by decide +kernel
theorem dX12_found_12 : decode cX12_found 12 = .ok (.ifCond .ne 6, 3) := by decide +kernel
theorem dX12_found_15 : decode cX12_found 15 = .ok (.bipush (-3), 2) := by decide +kernel
theorem dX12_found_17 : decode cX12_found 17 = .ok (.ireturn, 1) := by decide +kernel
theorem dX12_back_0 : decode cX12_back 0 = .ok (.aload_n 0, 1) := by decide +kernel
theorem dX12_back_1 : decode cX12_back 1 = .ok (.iconst 0, 1) := by decide +kernel
theorem dX12_back_2 : decode cX12_back 2 = .ok (.putfield 82, 3) := by decide +kernel
theorem dX12_back_5 : decode cX12_back 5 = .ok (.iload_n 1, 1) := by decide +kernel
theorem dX12_back_6 : decode cX12_back 6 = .ok (.i2l, 1) := by decide +kernel
theorem dX12_back_7 : decode cX12_back 7 = .ok (.lconst 0, 1) := by decide +kernel
theorem dX12_back_8 : decode cX12_back 8 = .ok (.lconst 1, 1) := by decide +kernel
theorem dX12_back_9 : decode cX12_back 9 = .ok (.invokestatic 90, 3) := by decide +kernel
theorem dX12_back_12 : decode cX12_back 12 = .ok (.ifCond .ne 9, 3) := by decide +kernel
theorem dX12_back_21 : decode cX12_back 21 = .ok (.aload_n 0, 1) := by decide +kernel
theorem dX12_back_22 : decode cX12_back 22 = .ok (.getfield 21, 3) := by decide +kernel
theorem dX12_back_25 : decode cX12_back 25 = .ok (.iload_n 1, 1) := by decide +kernel
theorem dX12_back_26 : decode cX12_back 26 = .ok (.baload, 1) := by decide +kernel
theorem dX12_back_27 : decode cX12_back 27 = .ok (.ifCond .ne 10, 3) := by decide +kernel
theorem dX12_back_30 : decode cX12_back 30 = .ok (.aload_n 0, 1) := by decide +kernel
theorem dX12_back_31 : decode cX12_back 31 = .ok (.bipush (-2), 2) := by decide +kernel
theorem dX12_back_33 : decode cX12_back 33 = .ok (.invokevirtual 94, 3) := by decide +kernel
theorem dX12_back_36 : decode cX12_back 36 = .ok (.ireturn, 1) := by decide +kernel
theorem dX12_back_15 : decode cX12_back 15 = .ok (.aload_n 0, 1) := by decide +kernel
theorem dX12_back_16 : decode cX12_back 16 = .ok (.iconst (-1), 1) := by decide +kernel
theorem dX12_back_17 : decode cX12_back 17 = .ok (.invokevirtual 94, 3) := by decide +kernel
theorem dX12_back_20 : decode cX12_back 20 = .ok (.ireturn, 1) := by decide +kernel
theorem dX12_count_0 : decode cX12_count 0 = .ok (.aload_n 0, 1) := by decide +kernel
theorem dX12_count_1 : decode cX12_count 1 = .ok (.iconst 0, 1) := by decide +kernel
theorem dX12_count_2 : decode cX12_count 2 = .ok (.putfield 82, 3) := by decide +kernel
theorem dX12_count_5 : decode cX12_count 5 = .ok (.iload_n 1, 1) := by decide +kernel
theorem dX12_count_6 : decode cX12_count 6 = .ok (.tableswitch 122 0 9 #[54, 62, 69, 76, 83, 90, 97, 104, 112, 117], 54) := by decide +kernel
theorem dX12_count_60 : decode cX12_count 60 = .ok (.aload_n 0, 1) := by decide +kernel
theorem dX12_count_61 : decode cX12_count 61 = .ok (.getfield 8, 3) := by decide +kernel
theorem dX12_count_64 : decode cX12_count 64 = .ok (.bipush 8, 2) := by decide +kernel
theorem dX12_count_66 : decode cX12_count 66 = .ok (.iaload, 1) := by decide +kernel
theorem dX12_count_67 : decode cX12_count 67 = .ok (.ireturn, 1) := by decide +kernel
theorem dX12_count_68 : decode cX12_count 68 = .ok (.aload_n 0, 1) := by decide +kernel
theorem dX12_count_69 : decode cX12_count 69 = .ok (.getfield 8, 3) := by decide +kernel
theorem dX12_count_72 : decode cX12_count 72 = .ok (.iconst 0, 1) := by decide +kernel
theorem dX12_count_73 : decode cX12_count 73 = .ok (.iaload, 1) := by decide +kernel
theorem dX12_count_74 : decode cX12_count 74 = .ok (.ireturn, 1) := by decide +kernel
theorem dX12_count_75 : decode cX12_count 75 = .ok (.aload_n 0, 1) := by decide +kernel
theorem dX12_count_76 : decode cX12_count 76 = .ok (.getfield 8, 3) := by decide +kernel
theorem dX12_count_79 : decode cX12_count 79 = .ok (.iconst 1, 1) := by decide +kernel
theorem dX12_count_80 : decode cX12_count 80 = .ok (.iaload, 1) := by decide +kernel
theorem dX12_count_81 : decode cX12_count 81 = .ok (.ireturn, 1) := by decide +kernel
theorem dX12_count_82 : decode cX12_count 82 = .ok (.aload_n 0, 1) := by decide +kernel
theorem dX12_count_83 : decode cX12_count 83 = .ok (.getfield 8, 3) := by decide +kernel
theorem dX12_count_86 : decode cX12_count 86 = .ok (.iconst 2, 1) := by decide +kernel
theorem dX12_count_87 : decode cX12_count 87 = .ok (.iaload, 1) := by decide +kernel
theorem dX12_count_88 : decode cX12_count 88 = .ok (.ireturn, 1) := by decide +kernel
theorem dX12_count_89 : decode cX12_count 89 = .ok (.aload_n 0, 1) := by decide +kernel
theorem dX12_count_90 : decode cX12_count 90 = .ok (.getfield 8, 3) := by decide +kernel
theorem dX12_count_93 : decode cX12_count 93 = .ok (.iconst 3, 1) := by decide +kernel
theorem dX12_count_94 : decode cX12_count 94 = .ok (.iaload, 1) := by decide +kernel
theorem dX12_count_95 : decode cX12_count 95 = .ok (.ireturn, 1) := by decide +kernel
theorem dX12_count_96 : decode cX12_count 96 = .ok (.aload_n 0, 1) := by decide +kernel
theorem dX12_count_97 : decode cX12_count 97 = .ok (.getfield 8, 3) := by decide +kernel
theorem dX12_count_100 : decode cX12_count 100 = .ok (.iconst 4, 1) := by decide +kernel
theorem dX12_count_101 : decode cX12_count 101 = .ok (.iaload, 1) := by decide +kernel
theorem dX12_count_102 : decode cX12_count 102 = .ok (.ireturn, 1) := by decide +kernel
theorem dX12_count_103 : decode cX12_count 103 = .ok (.aload_n 0, 1) := by decide +kernel
theorem dX12_count_104 : decode cX12_count 104 = .ok (.getfield 8, 3) := by decide +kernel
theorem dX12_count_107 : decode cX12_count 107 = .ok (.iconst 5, 1) := by decide +kernel
theorem dX12_count_108 : decode cX12_count 108 = .ok (.iaload, 1) := by decide +kernel
theorem dX12_count_109 : decode cX12_count 109 = .ok (.ireturn, 1) := by decide +kernel
theorem dX12_count_110 : decode cX12_count 110 = .ok (.aload_n 0, 1) := by decide +kernel
theorem dX12_count_111 : decode cX12_count 111 = .ok (.getfield 8, 3) := by decide +kernel
theorem dX12_count_114 : decode cX12_count 114 = .ok (.bipush 6, 2) := by decide +kernel
theorem dX12_count_116 : decode cX12_count 116 = .ok (.iaload, 1) := by decide +kernel
theorem dX12_count_117 : decode cX12_count 117 = .ok (.ireturn, 1) := by decide +kernel
theorem dX12_count_118 : decode cX12_count 118 = .ok (.aload_n 0, 1) := by decide +kernel
theorem dX12_count_119 : decode cX12_count 119 = .ok (.getfield 446, 3) := by decide +kernel
theorem dX12_count_122 : decode cX12_count 122 = .ok (.ireturn, 1) := by decide +kernel
theorem dX12_count_123 : decode cX12_count 123 = .ok (.aload_n 0, 1) := by decide +kernel
theorem dX12_count_124 : decode cX12_count 124 = .ok (.getfield 174, 3) := by decide +kernel
theorem dX12_count_127 : decode cX12_count 127 = .ok (.ireturn, 1) := by decide +kernel
theorem dX12_count_128 : decode cX12_count 128 = .ok (.iconst (-1), 1) := by decide +kernel
theorem dX12_count_129 : decode cX12_count 129 = .ok (.ireturn, 1) := by decide +kernel
theorem dX12_status_0 : decode cX12_status 0 = .ok (.aload_n 0, 1) := by decide +kernel
theorem dX12_status_1 : decode cX12_status 1 = .ok (.iconst 0, 1) := by decide +kernel
theorem dX12_status_2 : decode cX12_status 2 = .ok (.putfield 82, 3) := by decide +kernel
theorem dX12_status_5 : decode cX12_status 5 = .ok (.aload_n 0, 1) := by decide +kernel
theorem dX12_status_6 : decode cX12_status 6 = .ok (.getfield 85, 3) := by decide +kernel
theorem dX12_status_9 : decode cX12_status 9 = .ok (.ireturn, 1) := by decide +kernel
def d_X12_judge : List Cond := [Cond.fieldLink RX12 82 "NoRentModel" "thrown" "I", Cond.methodLink RX12 513 yX12_isSpan, Cond.instanceMethod yX12_isSpan, Cond.selects RX12 yX12_isSpan yX12_isSpan, Cond.initialized RX12, Cond.fieldLink RX12 504 "NoRentModel" "crops" "I"]
def v_X12_judge : List Cond := Cond.code yX12_judge cX12_judge 3 (some .int) :: (d_X12_judge ++ (wsX120 ++ (v_X12_isSpan ++ ([] : List Cond))))
theorem cm_X12_judge_0 : ∀ w ∈ wsX120, w ∈ v_X12_judge := fun _ h => List.mem_cons_of_mem _ (List.mem_append_right _ (List.mem_append_left _ h))
theorem cm_X12_judge_1 : ∀ w ∈ v_X12_isSpan, w ∈ v_X12_judge := fun _ h => List.mem_cons_of_mem _ (List.mem_append_right _ (List.mem_append_right _ (List.mem_append_left _ h)))
theorem gd_X12_judge : Gd v_X12_judge := gd_mk (by decide +kernel) (gd_app gd_X12 (gd_app gd_X12_isSpan gd_nil))
set_option maxRecDepth 20000 in
theorem gv_X12_judge_513_X12_isSpan : GoodIn v_X12_judge (wsV RX12 513 RX12 yX12_isSpan v_X12_isSpan) := goodIn_app (goodIn_of _ (by decide +kernel)) (gi cm_X12_judge_1 gd_X12_isSpan)
set_option maxHeartbeats 4000000 in
set_option maxRecDepth 100000 in
theorem c_X12_judge (l : Launch) (G : va_G) (cI cJ cZ cD cR cT : ClassId) (h0 : Nat) (u1 : Int32) (u2 : Int32) (h0_2 : Nat) (h0_3 : Nat) (h0_4 : Nat) (h0_5 : Nat) (h0_9 : Nat) (h0_10 : Nat) (h0_11 : Nat) (h0_20 : Nat) (h0_22 : Nat) (h0_23 : Nat) (h0_25 : Nat) (h0_26 : Nat) (h0_29 : Nat) (h0_30 : Nat) (h0_31 : Nat) (h0_32 : Nat) (h0_39 : Nat) (h0_40 : Nat) (h0_42 : Nat) (h0_44 : Nat) (h0_45 : Nat) (sz : Nat) : Met l yX12_judge v_X12_judge ({ frames := 3, cells := 0, slots := 0, locals := 86 }) (va_Pc [.ref h0, .int u1, .int u2] (PreW G (tys6 cI cJ cZ cD cR cT) [(h0, .inr (12, [.int 0, .int 0, .ref h0_2, .ref h0_3, .ref h0_4, .ref h0_5, .int 0, .int 0, .int 0, .ref h0_9, .ref h0_10, .ref h0_11, .int 0, .int 0, .int 0, .int 0, .long 0, .int (-1), .int 0, .int 0, .ref h0_20, .int 0, .ref h0_22, .ref h0_23, .int 0, .ref h0_25, .ref h0_26, .int 0, .int 0, .ref h0_29, .ref h0_30, .ref h0_31, .ref h0_32, .int 0, .long 0, .long 0, .long 0, .long 0, .int 0, .ref h0_39, .ref h0_40, .int 0, .ref h0_42, .int 0, .ref h0_44, .ref h0_45, .int 0, .int 0, .int 0, .int 0, .int 0, .int 0])), (h0_2, .inl (cI, 35942, .inl mrow))] sz)) (QW (RI (fun r => r = F_judge u1 u2)) G (va_A [(h0, .inr (12, [.int 0, .int 0, .ref h0_2, .ref h0_3, .ref h0_4, .ref h0_5, .int 0, .int 0, .int 0, .ref h0_9, .ref h0_10, .ref h0_11, .int 0, .int 0, .int 0, .int 0, .long 0, .int (-1), .int 0, .int 0, .ref h0_20, .int 0, .ref h0_22, .ref h0_23, .int 0, .ref h0_25, .ref h0_26, .int 0, .int 0, .ref h0_29, .ref h0_30, .ref h0_31, .ref h0_32, .int 0, .long 0, .long 0, .long 0, .long 0, .int 0, .ref h0_39, .ref h0_40, .int 0, .ref h0_42, .int 0, .ref h0_44, .ref h0_45, .int 0, .int 0, .int 0, .int 0, .int 0, .int 0])), (h0_2, .inl (cI, 35942, .inl mrow))] sz) (fun q g => [])) 0 0 (va_A [(h0, .inr (12, [.int 0, .int 0, .ref h0_2, .ref h0_3, .ref h0_4, .ref h0_5, .int 0, .int 0, .int 0, .ref h0_9, .ref h0_10, .ref h0_11, .int 0, .int 0, .int 0, .int 0, .long 0, .int (-1), .int 0, .int 0, .ref h0_20, .int 0, .ref h0_22, .ref h0_23, .int 0, .ref h0_25, .ref h0_26, .int 0, .int 0, .ref h0_29, .ref h0_30, .ref h0_31, .ref h0_32, .int 0, .long 0, .long 0, .long 0, .long 0, .int 0, .ref h0_39, .ref h0_40, .int 0, .ref h0_42, .int 0, .ref h0_44, .ref h0_45, .int 0, .int 0, .int 0, .int 0, .int 0, .int 0])), (h0_2, .inl (cI, 35942, .inl mrow))] sz) := by
  refine metW (cc := cX12_judge) (maxL := 3) (ret := (some .int)) (by decide) rfl (Nat.le_of_ble_eq_true rfl) ?_
  intro p e s m below meth c A ls hx hb hr hml hown hts hlocks hin hKK hP hD hA hS hl
  have hK := hKK.1
  have hown : s.vm.findClass RX12 = some m.cls := hown
  have hl : lv_has ls 3 [(0, .ref h0), (1, .int u1), (2, .int u2)] := hl
  have hP : va_P G vwCl [(h0, .inr (12, [.int 0, .int 0, .ref h0_2, .ref h0_3, .ref h0_4, .ref h0_5, .int 0, .int 0, .int 0, .ref h0_9, .ref h0_10, .ref h0_11, .int 0, .int 0, .int 0, .int 0, .long 0, .int (-1), .int 0, .int 0, .ref h0_20, .int 0, .ref h0_22, .ref h0_23, .int 0, .ref h0_25, .ref h0_26, .int 0, .int 0, .ref h0_29, .ref h0_30, .ref h0_31, .ref h0_32, .int 0, .long 0, .long 0, .long 0, .long 0, .int 0, .ref h0_39, .ref h0_40, .int 0, .ref h0_42, .int 0, .ref h0_44, .ref h0_45, .int 0, .int 0, .int 0, .int 0, .int 0, .int 0])), (h0_2, .inl (cI, 35942, .inl mrow))] s.heap := hP
  have hD : va_D A [(h0, .inr (12, [.int 0, .int 0, .ref h0_2, .ref h0_3, .ref h0_4, .ref h0_5, .int 0, .int 0, .int 0, .ref h0_9, .ref h0_10, .ref h0_11, .int 0, .int 0, .int 0, .int 0, .long 0, .int (-1), .int 0, .int 0, .ref h0_20, .int 0, .ref h0_22, .ref h0_23, .int 0, .ref h0_25, .ref h0_26, .int 0, .int 0, .ref h0_29, .ref h0_30, .ref h0_31, .ref h0_32, .int 0, .long 0, .long 0, .long 0, .long 0, .int 0, .ref h0_39, .ref h0_40, .int 0, .ref h0_42, .int 0, .ref h0_44, .ref h0_45, .int 0, .int 0, .int 0, .int 0, .int 0, .int 0])), (h0_2, .inl (cI, 35942, .inl mrow))] := hD
  refine lv_aload_n hx hb dX12_judge_0 rfl (lv_at hl 0 rfl) ?_
  refine lv_iconst (v := 0) hx hb dX12_judge_1 (by decide) ?_
  refine va_put (D := G) (ci := 12) (v := .int 0) (ty := .int) (C := RX12) (T := TX12) (N := 52) hx hb hts cm_X12_judge_0 tyX12 tyX12_ok nmX12 hown hK hP hD hS 0 rfl rfl 0 (by decide) (hts _ (dmem (j := 0) rfl)) (fun _ h9 => h9) rfl (by decide +kernel) rfl rfl (Nat.le_of_ble_eq_true rfl) dX12_judge_2 (fun H locs => setW (ws' := [(h0, .inr (12, [.int 0, .int 0, .ref h0_2, .ref h0_3, .ref h0_4, .ref h0_5, .int 0, .int 0, .int 0, .ref h0_9, .ref h0_10, .ref h0_11, .int 0, .int 0, .int 0, .int 0, .long 0, .int (-1), .int 0, .int 0, .ref h0_20, .int 0, .ref h0_22, .ref h0_23, .int 0, .ref h0_25, .ref h0_26, .int 0, .int 0, .ref h0_29, .ref h0_30, .ref h0_31, .ref h0_32, .int 0, .long 0, .long 0, .long 0, .long 0, .int 0, .ref h0_39, .ref h0_40, .int 0, .ref h0_42, .int 0, .ref h0_44, .ref h0_45, .int 0, .int 0, .int 0, .int 0, .int 0, .int 0])), (h0_2, .inl (cI, 35942, .inl mrow))]) rfl (fun hP hD hS => ?_))
  refine lv_aload_n hx hb dX12_judge_5 rfl (lv_at hl 0 rfl) ?_
  refine lv_iload_n hx hb dX12_judge_6 rfl (lv_at hl 2 rfl) ?_
  refine goV (As := [.int u2]) (rest := []) (wr := []) ⟨hx, hb, hml, hown, hts⟩ (c_X12_isSpan l G cI cJ cZ cD cR cT h0 u2 h0_2 h0_3 h0_4 h0_5 h0_9 h0_10 h0_11 h0_20 h0_22 h0_23 h0_25 h0_26 h0_29 h0_30 h0_31 h0_32 h0_39 h0_40 h0_42 h0_44 h0_45 _) (cwV 1 hts gv_X12_judge_513_X12_isSpan rfl rfl rfl (by decide +kernel) ⟨Nat.le_of_ble_eq_true rfl, Nat.le_of_ble_eq_true rfl⟩) 0 rfl rfl rfl hKK hP hD hS hA [0, 1] [] rfl rfl (by decide +kernel) (by decide +kernel) (by decide +kernel) rfl hl.1 rfl (lv_room (Nat.le_of_ble_eq_true rfl)) dX12_judge_7 ⟨Nat.le_of_ble_eq_true rfl, Nat.le_of_ble_eq_true rfl⟩ (fun v2 q1 gq1 H locs hv2 => appW (ws' := [(h0, .inr (12, [.int 0, .int 0, .ref h0_2, .ref h0_3, .ref h0_4, .ref h0_5, .int 0, .int 0, .int 0, .ref h0_9, .ref h0_10, .ref h0_11, .int 0, .int 0, .int 0, .int 0, .long 0, .int (-1), .int 0, .int 0, .ref h0_20, .int 0, .ref h0_22, .ref h0_23, .int 0, .ref h0_25, .ref h0_26, .int 0, .int 0, .ref h0_29, .ref h0_30, .ref h0_31, .ref h0_32, .int 0, .long 0, .long 0, .long 0, .long 0, .int 0, .ref h0_39, .ref h0_40, .int 0, .ref h0_42, .int 0, .ref h0_44, .ref h0_45, .int 0, .int 0, .int 0, .int 0, .int 0, .int 0])), (h0_2, .inl (cI, 35942, .inl mrow))]) rfl (fun hP hD hS => ?_))
  obtain ⟨_, rfl, h4⟩ := hv2
  rcases h4 with ⟨rfl, h4⟩ | ⟨rfl, h4⟩
  · refine lv_if_eq (tgt := 44) hx hb dX12_judge_10 (by decide) (fun c => absurd c (by decide)) (fun _ => ?_)
    refine lv_aload_n hx hb dX12_judge_13 rfl (lv_at hl 0 rfl) ?_
    refine va_get (D := G) (ci := 12) (v := .int 0) (C := RX12) (T := TX12) (N := 52) hx hb hts cm_X12_judge_0 hown hK hP 0 rfl rfl 43 (by decide) (hts _ (dmem (j := 5) rfl)) (fun _ h9 => h9) rfl dX12_judge_14 ?_
    refine lv_if_eq (tgt := 44) hx hb dX12_judge_17 (by decide) (fun _ => ?_) (fun c => absurd c (by decide))
    refine lv_iconst (v := (-1)) hx hb dX12_judge_44 (by decide) ?_
    refine lv_goto (tgt := 54) hx hb dX12_judge_45 (by decide) ?_
    exact retI hx hb hr hlocks ⟨_, rfl, by have hz0 : (0 : Int32).toInt = 0 := rfl; have hz1 : (1 : Int32).toInt = 1 := rfl; unfold F_judge; (repeat' split) <;> first | rfl | (exfalso; omega)⟩ hP hD hS (fun _ => 0) (fun _ _ => 0) [] (by decide +kernel) rfl dX12_judge_54
  · refine lv_if_eq (tgt := 44) hx hb dX12_judge_10 (by decide) (fun _ => ?_) (fun c => absurd c (by decide))
    refine lv_iconst (v := (-1)) hx hb dX12_judge_44 (by decide) ?_
    refine lv_goto (tgt := 54) hx hb dX12_judge_45 (by decide) ?_
    exact retI hx hb hr hlocks ⟨_, rfl, by have hz0 : (0 : Int32).toInt = 0 := rfl; have hz1 : (1 : Int32).toInt = 1 := rfl; unfold F_judge; (repeat' split) <;> first | rfl | (exfalso; omega)⟩ hP hD hS (fun _ => 0) (fun _ _ => 0) [] (by decide +kernel) rfl dX12_judge_54
def d_X12_keepPaper_v1 : List Cond := [Cond.constant RX12 7 (35942), Cond.fieldLink RX12 18 "NoRentModel" "paper" "[I", Cond.fieldLink RX12 8 "NoRentModel" "row" "[I"]
def v_X12_keepPaper_v1 : List Cond := Cond.code yX12_keepPaper cX12_keepPaper 2 none :: (d_X12_keepPaper_v1 ++ (wsX120 ++ ([] : List Cond)))
theorem cm_X12_keepPaper_v1_0 : ∀ w ∈ wsX120, w ∈ v_X12_keepPaper_v1 := fun _ h => List.mem_cons_of_mem _ (List.mem_append_right _ (List.mem_append_left _ h))
theorem gd_X12_keepPaper_v1 : Gd v_X12_keepPaper_v1 := gd_mk (by decide +kernel) (gd_app gd_X12 gd_nil)
set_option maxHeartbeats 4000000 in
set_option maxRecDepth 100000 in
theorem c_X12_keepPaper_v1 (l : Launch) (G : va_G) (cI cJ cZ cD cR cT : ClassId) (h0 : Nat) (h0_4 : Nat) (h0_2 : Nat) (h0_3 : Nat) (h0_5 : Nat) (h0_9 : Nat) (h0_10 : Nat) (h0_11 : Nat) (h0_20 : Nat) (h0_22 : Nat) (h0_23 : Nat) (h0_25 : Nat) (h0_26 : Nat) (h0_29 : Nat) (h0_30 : Nat) (h0_31 : Nat) (h0_32 : Nat) (h0_39 : Nat) (h0_40 : Nat) (h0_42 : Nat) (h0_44 : Nat) (h0_45 : Nat) (sz : Nat) : Met l yX12_keepPaper v_X12_keepPaper_v1 ({ frames := 1, cells := 0, slots := 0, locals := 40 }) (va_Pc [.ref h0] (PreW G (tys6 cI cJ cZ cD cR cT) [(h0_4, .inl (cI, 35942, .inl (fun _ => 0))), (h0, .inr (12, [.int 0, .int 0, .ref h0_2, .ref h0_3, .ref h0_4, .ref h0_5, .int 0, .int 0, .int 0, .ref h0_9, .ref h0_10, .ref h0_11, .int 0, .int 0, .int 0, .int 0, .long 0, .int (-1), .int 0, .int 0, .ref h0_20, .int 0, .ref h0_22, .ref h0_23, .int 0, .ref h0_25, .ref h0_26, .int 0, .int 0, .ref h0_29, .ref h0_30, .ref h0_31, .ref h0_32, .int 0, .long 0, .long 0, .long 0, .long 0, .int 0, .ref h0_39, .ref h0_40, .int 0, .ref h0_42, .int 0, .ref h0_44, .ref h0_45, .int 0, .int 0, .int 0, .int 0, .int 0, .int 0])), (h0_2, .inl (cI, 35942, .inl mrow))] sz)) (QW RV G (va_A [(h0_4, .inl (cI, 35942, .inl (fun _ => 0))), (h0, .inr (12, [.int 0, .int 0, .ref h0_2, .ref h0_3, .ref h0_4, .ref h0_5, .int 0, .int 0, .int 0, .ref h0_9, .ref h0_10, .ref h0_11, .int 0, .int 0, .int 0, .int 0, .long 0, .int (-1), .int 0, .int 0, .ref h0_20, .int 0, .ref h0_22, .ref h0_23, .int 0, .ref h0_25, .ref h0_26, .int 0, .int 0, .ref h0_29, .ref h0_30, .ref h0_31, .ref h0_32, .int 0, .long 0, .long 0, .long 0, .long 0, .int 0, .ref h0_39, .ref h0_40, .int 0, .ref h0_42, .int 0, .ref h0_44, .ref h0_45, .int 0, .int 0, .int 0, .int 0, .int 0, .int 0])), (h0_2, .inl (cI, 35942, .inl mrow))] sz) (fun q g => [(h0_4, .inl (cI, 35942, .inl (g 0))), (h0, .inr (12, [.int 0, .int 0, .ref h0_2, .ref h0_3, .ref h0_4, .ref h0_5, .int 0, .int 0, .int 0, .ref h0_9, .ref h0_10, .ref h0_11, .int 0, .int 0, .int 0, .int 0, .long 0, .int (-1), .int 0, .int 0, .ref h0_20, .int 0, .ref h0_22, .ref h0_23, .int 0, .ref h0_25, .ref h0_26, .int 0, .int 0, .ref h0_29, .ref h0_30, .ref h0_31, .ref h0_32, .int 0, .long 0, .long 0, .long 0, .long 0, .int 0, .ref h0_39, .ref h0_40, .int 0, .ref h0_42, .int 0, .ref h0_44, .ref h0_45, .int 0, .int 0, .int 0, .int 0, .int 0, .int 0])), (h0_2, .inl (cI, 35942, .inl mrow))])) 0 0 (va_A [(h0_4, .inl (cI, 35942, .inl (fun _ => 0))), (h0, .inr (12, [.int 0, .int 0, .ref h0_2, .ref h0_3, .ref h0_4, .ref h0_5, .int 0, .int 0, .int 0, .ref h0_9, .ref h0_10, .ref h0_11, .int 0, .int 0, .int 0, .int 0, .long 0, .int (-1), .int 0, .int 0, .ref h0_20, .int 0, .ref h0_22, .ref h0_23, .int 0, .ref h0_25, .ref h0_26, .int 0, .int 0, .ref h0_29, .ref h0_30, .ref h0_31, .ref h0_32, .int 0, .long 0, .long 0, .long 0, .long 0, .int 0, .ref h0_39, .ref h0_40, .int 0, .ref h0_42, .int 0, .ref h0_44, .ref h0_45, .int 0, .int 0, .int 0, .int 0, .int 0, .int 0])), (h0_2, .inl (cI, 35942, .inl mrow))] sz) := by
  refine metW (cc := cX12_keepPaper) (maxL := 2) (ret := none) (by decide) rfl (Nat.le_of_ble_eq_true rfl) ?_
  intro p e s m below meth c A ls hx hb hr hml hown hts hlocks hin hKK hP hD hA hS hl
  have hK := hKK.1
  have hown : s.vm.findClass RX12 = some m.cls := hown
  have hl : lv_has ls 2 [(0, .ref h0)] := hl
  have hP : va_P G vwCl [(h0_4, .inl (cI, 35942, .inl (fun _ => 0))), (h0, .inr (12, [.int 0, .int 0, .ref h0_2, .ref h0_3, .ref h0_4, .ref h0_5, .int 0, .int 0, .int 0, .ref h0_9, .ref h0_10, .ref h0_11, .int 0, .int 0, .int 0, .int 0, .long 0, .int (-1), .int 0, .int 0, .ref h0_20, .int 0, .ref h0_22, .ref h0_23, .int 0, .ref h0_25, .ref h0_26, .int 0, .int 0, .ref h0_29, .ref h0_30, .ref h0_31, .ref h0_32, .int 0, .long 0, .long 0, .long 0, .long 0, .int 0, .ref h0_39, .ref h0_40, .int 0, .ref h0_42, .int 0, .ref h0_44, .ref h0_45, .int 0, .int 0, .int 0, .int 0, .int 0, .int 0])), (h0_2, .inl (cI, 35942, .inl mrow))] s.heap := hP
  have hD : va_D A [(h0_4, .inl (cI, 35942, .inl (fun _ => 0))), (h0, .inr (12, [.int 0, .int 0, .ref h0_2, .ref h0_3, .ref h0_4, .ref h0_5, .int 0, .int 0, .int 0, .ref h0_9, .ref h0_10, .ref h0_11, .int 0, .int 0, .int 0, .int 0, .long 0, .int (-1), .int 0, .int 0, .ref h0_20, .int 0, .ref h0_22, .ref h0_23, .int 0, .ref h0_25, .ref h0_26, .int 0, .int 0, .ref h0_29, .ref h0_30, .ref h0_31, .ref h0_32, .int 0, .long 0, .long 0, .long 0, .long 0, .int 0, .ref h0_39, .ref h0_40, .int 0, .ref h0_42, .int 0, .ref h0_44, .ref h0_45, .int 0, .int 0, .int 0, .int 0, .int 0, .int 0])), (h0_2, .inl (cI, 35942, .inl mrow))] := hD
  refine lv_iconst (v := 0) hx hb dX12_keepPaper_0 (by decide) ?_
  refine lv_istore_n (lv' := [(1, .int 0), (0, .ref h0)]) hx hb dX12_keepPaper_1 rfl hl (by decide) rfl (fun ls hl => ?_)
  have loop2 : ∀ (n2 k1 : Nat), k1 + n2 = 35942 → ∀ (z3 : Nat → Int32) (H : Heap) (locs : List Loc) (ls : Array Slot), va_P G vwCl [(h0_4, .inl (cI, 35942, .inl z3)), (h0, .inr (12, [.int 0, .int 0, .ref h0_2, .ref h0_3, .ref h0_4, .ref h0_5, .int 0, .int 0, .int 0, .ref h0_9, .ref h0_10, .ref h0_11, .int 0, .int 0, .int 0, .int 0, .long 0, .int (-1), .int 0, .int 0, .ref h0_20, .int 0, .ref h0_22, .ref h0_23, .int 0, .ref h0_25, .ref h0_26, .int 0, .int 0, .ref h0_29, .ref h0_30, .ref h0_31, .ref h0_32, .int 0, .long 0, .long 0, .long 0, .long 0, .int 0, .ref h0_39, .ref h0_40, .int 0, .ref h0_42, .int 0, .ref h0_44, .ref h0_45, .int 0, .int 0, .int 0, .int 0, .int 0, .int 0])), (h0_2, .inl (cI, 35942, .inl mrow))] H → va_D A [(h0_4, .inl (cI, 35942, .inl z3)), (h0, .inr (12, [.int 0, .int 0, .ref h0_2, .ref h0_3, .ref h0_4, .ref h0_5, .int 0, .int 0, .int 0, .ref h0_9, .ref h0_10, .ref h0_11, .int 0, .int 0, .int 0, .int 0, .long 0, .int (-1), .int 0, .int 0, .ref h0_20, .int 0, .ref h0_22, .ref h0_23, .int 0, .ref h0_25, .ref h0_26, .int 0, .int 0, .ref h0_29, .ref h0_30, .ref h0_31, .ref h0_32, .int 0, .long 0, .long 0, .long 0, .long 0, .int 0, .ref h0_39, .ref h0_40, .int 0, .ref h0_42, .int 0, .ref h0_44, .ref h0_45, .int 0, .int 0, .int 0, .int 0, .int 0, .int 0])), (h0_2, .inl (cI, 35942, .inl mrow))] → va_S A s.heap H locs → lv_has ls 2 [(1, .int (nI k1)), (0, .ref h0)] → W p l e ({ frames := 1, cells := 0, slots := 0, locals := 40 }) s m ([.ref h0] : List Value).toArray below meth c H locs 0 0 (MQ below (QW RV G A (fun q g => [(h0_4, .inl (cI, 35942, .inl (g 0))), (h0, .inr (12, [.int 0, .int 0, .ref h0_2, .ref h0_3, .ref h0_4, .ref h0_5, .int 0, .int 0, .int 0, .ref h0_9, .ref h0_10, .ref h0_11, .int 0, .int 0, .int 0, .int 0, .long 0, .int (-1), .int 0, .int 0, .ref h0_20, .int 0, .ref h0_22, .ref h0_23, .int 0, .ref h0_25, .ref h0_26, .int 0, .int 0, .ref h0_29, .ref h0_30, .ref h0_31, .ref h0_32, .int 0, .long 0, .long 0, .long 0, .long 0, .int 0, .ref h0_39, .ref h0_40, .int 0, .ref h0_42, .int 0, .ref h0_44, .ref h0_45, .int 0, .int 0, .int 0, .int 0, .int 0, .int 0])), (h0_2, .inl (cI, 35942, .inl mrow))])) ([.ref h0] : List Value).toArray s 0 0 A) (F0 m 2 ls []) := by
    intro n2
    induction n2 with
    | zero =>
      intro k1 hk z3 H locs ls hP hD hS hl
      obtain rfl : 35942 = k1 := by omega
      have hl : lv_has ls 2 [(1, .int 35942), (0, .ref h0)] := hl
      refine lv_iload_n hx hb dX12_keepPaper_2 rfl (lv_at hl 0 rfl) ?_
      refine lv_ldc (v := 35942) hx hb hown (hts _ (dmem (j := 0) rfl)) dX12_keepPaper_3 ?_
      refine lv_icmp_ge (tgt := 26) hx hb dX12_keepPaper_5 (by decide) (fun _ => ?_) (fun c => absurd c (by decide))
      exact retV hx hb hr hlocks rfl hP hD hS (fun _ => 0) (fun k => match k with | 0 => z3 | _ => fun _ => 0) [0, 1, 2] (by decide +kernel) rfl dX12_keepPaper_26
    | succ n2 ih =>
      intro k1 hk z3 H locs ls hP hD hS hl
      have hkI : (nI k1).toInt = (k1 : Int) := nI_toInt (by omega)
      refine lv_iload_n hx hb dX12_keepPaper_2 rfl (lv_at hl 0 rfl) ?_
      refine lv_ldc (v := 35942) hx hb hown (hts _ (dmem (j := 0) rfl)) dX12_keepPaper_3 ?_
      refine lv_icmp_ge (tgt := 26) hx hb dX12_keepPaper_5 (by decide) (fun c4 => ?_) (fun c4 => ?_)
      · have f5 : (35942 : Int) ≤ (nI k1).toInt := Int32.le_iff_toInt_le.mp c4
        exfalso; omega
      · have f6 : ¬ ((35942 : Int) ≤ (nI k1).toInt) := fun h => c4 (Int32.le_iff_toInt_le.mpr h)
        refine lv_aload_n hx hb dX12_keepPaper_8 rfl (lv_at hl 1 rfl) ?_
        refine va_get (D := G) (ci := 12) (v := .ref h0_4) (C := RX12) (T := TX12) (N := 52) hx hb hts cm_X12_keepPaper_v1_0 hown hK hP 1 rfl rfl 4 (by decide) (hts _ (dmem (j := 1) rfl)) (fun _ h9 => h9) rfl dX12_keepPaper_9 ?_
        refine lv_iload_n hx hb dX12_keepPaper_12 rfl (lv_at hl 0 rfl) ?_
        refine lv_aload_n hx hb dX12_keepPaper_13 rfl (lv_at hl 1 rfl) ?_
        refine va_get (D := G) (ci := 12) (v := .ref h0_2) (C := RX12) (T := TX12) (N := 52) hx hb hts cm_X12_keepPaper_v1_0 hown hK hP 1 rfl rfl 2 (by decide) (hts _ (dmem (j := 2) rfl)) (fun _ h9 => h9) rfl dX12_keepPaper_14 ?_
        refine lv_iload_n hx hb dX12_keepPaper_17 rfl (lv_at hl 0 rfl) ?_
        refine va_iald hx hb hK hP 2 0 rfl rfl (vp_in_iff.mpr (by omega)) dX12_keepPaper_18 ?_
        refine lv_topi (fun x7 ex7 => ?_)
        refine va_iast hx hb hK hP hD hS 0 0 rfl rfl (vp_in_iff.mpr (by omega)) dX12_keepPaper_19 (fun H locs => setW (ws' := [(h0_4, .inl (cI, 35942, .inl (upd z3 ((nI k1)).toNatClampNeg x7))), (h0, .inr (12, [.int 0, .int 0, .ref h0_2, .ref h0_3, .ref h0_4, .ref h0_5, .int 0, .int 0, .int 0, .ref h0_9, .ref h0_10, .ref h0_11, .int 0, .int 0, .int 0, .int 0, .long 0, .int (-1), .int 0, .int 0, .ref h0_20, .int 0, .ref h0_22, .ref h0_23, .int 0, .ref h0_25, .ref h0_26, .int 0, .int 0, .ref h0_29, .ref h0_30, .ref h0_31, .ref h0_32, .int 0, .long 0, .long 0, .long 0, .long 0, .int 0, .ref h0_39, .ref h0_40, .int 0, .ref h0_42, .int 0, .ref h0_44, .ref h0_45, .int 0, .int 0, .int 0, .int 0, .int 0, .int 0])), (h0_2, .inl (cI, 35942, .inl mrow))]) rfl (fun hP hD hS => ?_))
        refine lv_iinc (v := (nI (k1 + 1))) (lv' := [(1, .int (nI (k1 + 1))), (0, .ref h0)]) hx hb dX12_keepPaper_20 hl (k := 0) rfl (nI_1 k1) (by decide) rfl (fun ls hl => ?_)
        refine lv_goto (tgt := 2) hx hb dX12_keepPaper_23 (by decide) ?_
        exact ih (k1 + 1) (by omega) _ _ _ _ hP hD hS (lv_sub hl [0, 1] rfl)
  exact loop2 35942 0 (by omega) _ _ _ _ hP hD hS hl
def d_X12_beside : List Cond := [Cond.fieldLink RX12 82 "NoRentModel" "thrown" "I", Cond.methodLink RX12 513 yX12_isSpan, Cond.instanceMethod yX12_isSpan, Cond.selects RX12 yX12_isSpan yX12_isSpan, Cond.initialized RX12, Cond.fieldLink RX12 8 "NoRentModel" "row" "[I", Cond.methodLink RX12 507 yX12_keepPaper, Cond.instanceMethod yX12_keepPaper, Cond.selects RX12 yX12_keepPaper yX12_keepPaper, Cond.methodLink RX12 385 yX12_readText, Cond.instanceMethod yX12_readText, Cond.selects RX12 yX12_readText yX12_readText, Cond.fieldLink RX12 174 "NoRentModel" "taped" "I", Cond.constantLong RX12 531 (-2000000000000)]
def v_X12_beside : List Cond := Cond.code yX12_beside cX12_beside 7 (some .long) :: (d_X12_beside ++ (wsX120 ++ (v_X12_isSpan ++ (v_X12_keepPaper_v1 ++ (v_X12_readText_v1 ++ ([] : List Cond))))))
theorem cm_X12_beside_0 : ∀ w ∈ wsX120, w ∈ v_X12_beside := fun _ h => List.mem_cons_of_mem _ (List.mem_append_right _ (List.mem_append_left _ h))
theorem cm_X12_beside_1 : ∀ w ∈ v_X12_isSpan, w ∈ v_X12_beside := fun _ h => List.mem_cons_of_mem _ (List.mem_append_right _ (List.mem_append_right _ (List.mem_append_left _ h)))
theorem cm_X12_beside_2 : ∀ w ∈ v_X12_keepPaper_v1, w ∈ v_X12_beside := fun _ h => List.mem_cons_of_mem _ (List.mem_append_right _ (List.mem_append_right _ (List.mem_append_right _ (List.mem_append_left _ h))))
theorem cm_X12_beside_3 : ∀ w ∈ v_X12_readText_v1, w ∈ v_X12_beside := fun _ h => List.mem_cons_of_mem _ (List.mem_append_right _ (List.mem_append_right _ (List.mem_append_right _ (List.mem_append_right _ (List.mem_append_left _ h)))))
theorem gd_X12_beside : Gd v_X12_beside := gd_mk (by decide +kernel) (gd_app gd_X12 (gd_app gd_X12_isSpan (gd_app gd_X12_keepPaper_v1 (gd_app gd_X12_readText_v1 gd_nil))))
set_option maxRecDepth 20000 in
theorem gv_X12_beside_513_X12_isSpan : GoodIn v_X12_beside (wsV RX12 513 RX12 yX12_isSpan v_X12_isSpan) := goodIn_app (goodIn_of _ (by decide +kernel)) (gi cm_X12_beside_1 gd_X12_isSpan)
set_option maxRecDepth 20000 in
theorem gv_X12_beside_507_X12_keepPaper_v1 : GoodIn v_X12_beside (wsV RX12 507 RX12 yX12_keepPaper v_X12_keepPaper_v1) := goodIn_app (goodIn_of _ (by decide +kernel)) (gi cm_X12_beside_2 gd_X12_keepPaper_v1)
set_option maxRecDepth 20000 in
theorem gv_X12_beside_385_X12_readText_v1 : GoodIn v_X12_beside (wsV RX12 385 RX12 yX12_readText v_X12_readText_v1) := goodIn_app (goodIn_of _ (by decide +kernel)) (gi cm_X12_beside_3 gd_X12_readText_v1)
set_option maxHeartbeats 4000000 in
set_option maxRecDepth 100000 in
theorem c_X12_beside (l : Launch) (G : va_G) (cI cJ cZ cD cR cT : ClassId) (h0 : Nat) (u1 : Int32) (h0_2 : Nat) (h0_3 : Nat) (h0_4 : Nat) (h0_5 : Nat) (h0_9 : Nat) (h0_10 : Nat) (h0_11 : Nat) (h0_20 : Nat) (h0_22 : Nat) (h0_23 : Nat) (h0_25 : Nat) (h0_26 : Nat) (h0_29 : Nat) (h0_30 : Nat) (h0_31 : Nat) (h0_32 : Nat) (h0_39 : Nat) (h0_40 : Nat) (h0_42 : Nat) (h0_44 : Nat) (h0_45 : Nat) (sz : Nat) : Met l yX12_beside v_X12_beside ({ frames := 5, cells := 0, slots := 0, locals := 128 }) (va_Pc [.ref h0, .int u1] (PreW G (tys6 cI cJ cZ cD cR cT) [(h0, .inr (12, [.int 0, .int 0, .ref h0_2, .ref h0_3, .ref h0_4, .ref h0_5, .int 0, .int 0, .int 0, .ref h0_9, .ref h0_10, .ref h0_11, .int 0, .int 0, .int 0, .int 0, .long 0, .int (-1), .int 0, .int 0, .ref h0_20, .int 0, .ref h0_22, .ref h0_23, .int 0, .ref h0_25, .ref h0_26, .int 0, .int 0, .ref h0_29, .ref h0_30, .ref h0_31, .ref h0_32, .int 0, .long 0, .long 0, .long 0, .long 0, .int 0, .ref h0_39, .ref h0_40, .int 0, .ref h0_42, .int 0, .ref h0_44, .ref h0_45, .int 0, .int 0, .int 0, .int 0, .int 0, .int 0])), (h0_2, .inl (cI, 35942, .inl mrow)), (h0_4, .inl (cI, 35942, .inl (fun _ => 0)))] sz)) (QW (RL_ (fun r => r = (-2000000000000))) G (va_A [(h0, .inr (12, [.int 0, .int 0, .ref h0_2, .ref h0_3, .ref h0_4, .ref h0_5, .int 0, .int 0, .int 0, .ref h0_9, .ref h0_10, .ref h0_11, .int 0, .int 0, .int 0, .int 0, .long 0, .int (-1), .int 0, .int 0, .ref h0_20, .int 0, .ref h0_22, .ref h0_23, .int 0, .ref h0_25, .ref h0_26, .int 0, .int 0, .ref h0_29, .ref h0_30, .ref h0_31, .ref h0_32, .int 0, .long 0, .long 0, .long 0, .long 0, .int 0, .ref h0_39, .ref h0_40, .int 0, .ref h0_42, .int 0, .ref h0_44, .ref h0_45, .int 0, .int 0, .int 0, .int 0, .int 0, .int 0])), (h0_2, .inl (cI, 35942, .inl mrow)), (h0_4, .inl (cI, 35942, .inl (fun _ => 0)))] sz) (fun q g => [])) 0 0 (va_A [(h0, .inr (12, [.int 0, .int 0, .ref h0_2, .ref h0_3, .ref h0_4, .ref h0_5, .int 0, .int 0, .int 0, .ref h0_9, .ref h0_10, .ref h0_11, .int 0, .int 0, .int 0, .int 0, .long 0, .int (-1), .int 0, .int 0, .ref h0_20, .int 0, .ref h0_22, .ref h0_23, .int 0, .ref h0_25, .ref h0_26, .int 0, .int 0, .ref h0_29, .ref h0_30, .ref h0_31, .ref h0_32, .int 0, .long 0, .long 0, .long 0, .long 0, .int 0, .ref h0_39, .ref h0_40, .int 0, .ref h0_42, .int 0, .ref h0_44, .ref h0_45, .int 0, .int 0, .int 0, .int 0, .int 0, .int 0])), (h0_2, .inl (cI, 35942, .inl mrow)), (h0_4, .inl (cI, 35942, .inl (fun _ => 0)))] sz) := by
  refine metW (cc := cX12_beside) (maxL := 7) (ret := (some .long)) (by decide) rfl (Nat.le_of_ble_eq_true rfl) ?_
  intro p e s m below meth c A ls hx hb hr hml hown hts hlocks hin hKK hP hD hA hS hl
  have hK := hKK.1
  have hown : s.vm.findClass RX12 = some m.cls := hown
  have hl : lv_has ls 7 [(0, .ref h0), (1, .int u1)] := hl
  have hP : va_P G vwCl [(h0, .inr (12, [.int 0, .int 0, .ref h0_2, .ref h0_3, .ref h0_4, .ref h0_5, .int 0, .int 0, .int 0, .ref h0_9, .ref h0_10, .ref h0_11, .int 0, .int 0, .int 0, .int 0, .long 0, .int (-1), .int 0, .int 0, .ref h0_20, .int 0, .ref h0_22, .ref h0_23, .int 0, .ref h0_25, .ref h0_26, .int 0, .int 0, .ref h0_29, .ref h0_30, .ref h0_31, .ref h0_32, .int 0, .long 0, .long 0, .long 0, .long 0, .int 0, .ref h0_39, .ref h0_40, .int 0, .ref h0_42, .int 0, .ref h0_44, .ref h0_45, .int 0, .int 0, .int 0, .int 0, .int 0, .int 0])), (h0_2, .inl (cI, 35942, .inl mrow)), (h0_4, .inl (cI, 35942, .inl (fun _ => 0)))] s.heap := hP
  have hD : va_D A [(h0, .inr (12, [.int 0, .int 0, .ref h0_2, .ref h0_3, .ref h0_4, .ref h0_5, .int 0, .int 0, .int 0, .ref h0_9, .ref h0_10, .ref h0_11, .int 0, .int 0, .int 0, .int 0, .long 0, .int (-1), .int 0, .int 0, .ref h0_20, .int 0, .ref h0_22, .ref h0_23, .int 0, .ref h0_25, .ref h0_26, .int 0, .int 0, .ref h0_29, .ref h0_30, .ref h0_31, .ref h0_32, .int 0, .long 0, .long 0, .long 0, .long 0, .int 0, .ref h0_39, .ref h0_40, .int 0, .ref h0_42, .int 0, .ref h0_44, .ref h0_45, .int 0, .int 0, .int 0, .int 0, .int 0, .int 0])), (h0_2, .inl (cI, 35942, .inl mrow)), (h0_4, .inl (cI, 35942, .inl (fun _ => 0)))] := hD
  refine lv_aload_n hx hb dX12_beside_0 rfl (lv_at hl 0 rfl) ?_
  refine lv_iconst (v := 0) hx hb dX12_beside_1 (by decide) ?_
  refine va_put (D := G) (ci := 12) (v := .int 0) (ty := .int) (C := RX12) (T := TX12) (N := 52) hx hb hts cm_X12_beside_0 tyX12 tyX12_ok nmX12 hown hK hP hD hS 0 rfl rfl 0 (by decide) (hts _ (dmem (j := 0) rfl)) (fun _ h9 => h9) rfl (by decide +kernel) rfl rfl (Nat.le_of_ble_eq_true rfl) dX12_beside_2 (fun H locs => setW (ws' := [(h0, .inr (12, [.int 0, .int 0, .ref h0_2, .ref h0_3, .ref h0_4, .ref h0_5, .int 0, .int 0, .int 0, .ref h0_9, .ref h0_10, .ref h0_11, .int 0, .int 0, .int 0, .int 0, .long 0, .int (-1), .int 0, .int 0, .ref h0_20, .int 0, .ref h0_22, .ref h0_23, .int 0, .ref h0_25, .ref h0_26, .int 0, .int 0, .ref h0_29, .ref h0_30, .ref h0_31, .ref h0_32, .int 0, .long 0, .long 0, .long 0, .long 0, .int 0, .ref h0_39, .ref h0_40, .int 0, .ref h0_42, .int 0, .ref h0_44, .ref h0_45, .int 0, .int 0, .int 0, .int 0, .int 0, .int 0])), (h0_2, .inl (cI, 35942, .inl mrow)), (h0_4, .inl (cI, 35942, .inl (fun _ => 0)))]) rfl (fun hP hD hS => ?_))
  refine lv_aload_n hx hb dX12_beside_5 rfl (lv_at hl 0 rfl) ?_
  refine lv_iload_n hx hb dX12_beside_6 rfl (lv_at hl 1 rfl) ?_
  refine goV (As := [.int u1]) (rest := []) (wr := [(h0_4, .inl (cI, 35942, .inl (fun _ => 0)))]) ⟨hx, hb, hml, hown, hts⟩ (c_X12_isSpan l G cI cJ cZ cD cR cT h0 u1 h0_2 h0_3 h0_4 h0_5 h0_9 h0_10 h0_11 h0_20 h0_22 h0_23 h0_25 h0_26 h0_29 h0_30 h0_31 h0_32 h0_39 h0_40 h0_42 h0_44 h0_45 _) (cwV 1 hts gv_X12_beside_513_X12_isSpan rfl rfl rfl (by decide +kernel) ⟨Nat.le_of_ble_eq_true rfl, Nat.le_of_ble_eq_true rfl⟩) 0 rfl rfl rfl hKK hP hD hS hA [0, 1] [2] rfl rfl (by decide +kernel) (by decide +kernel) (by decide +kernel) rfl hl.1 rfl (lv_room (Nat.le_of_ble_eq_true rfl)) dX12_beside_7 ⟨Nat.le_of_ble_eq_true rfl, Nat.le_of_ble_eq_true rfl⟩ (fun v2 q1 gq1 H locs hv2 => appW (ws' := [(h0_4, .inl (cI, 35942, .inl (fun _ => 0))), (h0, .inr (12, [.int 0, .int 0, .ref h0_2, .ref h0_3, .ref h0_4, .ref h0_5, .int 0, .int 0, .int 0, .ref h0_9, .ref h0_10, .ref h0_11, .int 0, .int 0, .int 0, .int 0, .long 0, .int (-1), .int 0, .int 0, .ref h0_20, .int 0, .ref h0_22, .ref h0_23, .int 0, .ref h0_25, .ref h0_26, .int 0, .int 0, .ref h0_29, .ref h0_30, .ref h0_31, .ref h0_32, .int 0, .long 0, .long 0, .long 0, .long 0, .int 0, .ref h0_39, .ref h0_40, .int 0, .ref h0_42, .int 0, .ref h0_44, .ref h0_45, .int 0, .int 0, .int 0, .int 0, .int 0, .int 0])), (h0_2, .inl (cI, 35942, .inl mrow))]) rfl (fun hP hD hS => ?_))
  obtain ⟨_, rfl, h4⟩ := hv2
  rcases h4 with ⟨rfl, h4⟩ | ⟨rfl, h4⟩
  · refine lv_if_eq (tgt := 24) hx hb dX12_beside_10 (by decide) (fun c => absurd c (by decide)) (fun _ => ?_)
    refine lv_aload_n hx hb dX12_beside_13 rfl (lv_at hl 0 rfl) ?_
    refine va_get (D := G) (ci := 12) (v := .ref h0_2) (C := RX12) (T := TX12) (N := 52) hx hb hts cm_X12_beside_0 hown hK hP 1 rfl rfl 2 (by decide) (hts _ (dmem (j := 5) rfl)) (fun _ h9 => h9) rfl dX12_beside_14 ?_
    refine lv_iconst (v := 3) hx hb dX12_beside_17 (by decide) ?_
    refine va_iald hx hb hK hP 2 0 rfl rfl (vp_in_iff.mpr (by decide)) dX12_beside_18 ?_
    refine lv_topi (fun x5 ex5 => ?_)
    obtain rfl : 0 = x5 := (ex5.trans (by first | rfl | decide | (simp [upd, mrow]; done))).symm
    refine lv_bipush (v := 20) hx hb dX12_beside_19 (by decide) ?_
    refine lv_icmp_ne (tgt := 33) hx hb dX12_beside_21 (by decide) (fun _ => ?_) (fun c => absurd c (by decide))
    refine lv_aload_n hx hb dX12_beside_33 rfl (lv_at hl 0 rfl) ?_
    refine goV (As := []) (rest := []) (wr := []) ⟨hx, hb, hml, hown, hts⟩ (c_X12_keepPaper_v1 l G cI cJ cZ cD cR cT h0 h0_4 h0_2 h0_3 h0_5 h0_9 h0_10 h0_11 h0_20 h0_22 h0_23 h0_25 h0_26 h0_29 h0_30 h0_31 h0_32 h0_39 h0_40 h0_42 h0_44 h0_45 _) (cwV 0 hts gv_X12_beside_507_X12_keepPaper_v1 rfl rfl rfl (by decide +kernel) ⟨Nat.le_of_ble_eq_true rfl, Nat.le_of_ble_eq_true rfl⟩) 1 rfl rfl rfl hKK hP hD hS hA [0, 1, 2] [] rfl rfl (by decide +kernel) (by decide +kernel) (by decide +kernel) rfl hl.1 rfl (lv_room (Nat.le_of_ble_eq_true rfl)) dX12_beside_34 ⟨Nat.le_of_ble_eq_true rfl, Nat.le_of_ble_eq_true rfl⟩ (fun v7 q6 gq6 H locs hv7 => appW (ws' := [(h0_4, .inl (cI, 35942, .inl (gq6 0))), (h0, .inr (12, [.int 0, .int 0, .ref h0_2, .ref h0_3, .ref h0_4, .ref h0_5, .int 0, .int 0, .int 0, .ref h0_9, .ref h0_10, .ref h0_11, .int 0, .int 0, .int 0, .int 0, .long 0, .int (-1), .int 0, .int 0, .ref h0_20, .int 0, .ref h0_22, .ref h0_23, .int 0, .ref h0_25, .ref h0_26, .int 0, .int 0, .ref h0_29, .ref h0_30, .ref h0_31, .ref h0_32, .int 0, .long 0, .long 0, .long 0, .long 0, .int 0, .ref h0_39, .ref h0_40, .int 0, .ref h0_42, .int 0, .ref h0_44, .ref h0_45, .int 0, .int 0, .int 0, .int 0, .int 0, .int 0])), (h0_2, .inl (cI, 35942, .inl mrow))]) rfl (fun hP hD hS => ?_))
    obtain rfl := hv7
    refine lv_aload_n hx hb dX12_beside_37 rfl (lv_at hl 0 rfl) ?_
    refine lv_aload_n hx hb dX12_beside_38 rfl (lv_at hl 0 rfl) ?_
    refine va_get (D := G) (ci := 12) (v := .ref h0_2) (C := RX12) (T := TX12) (N := 52) hx hb hts cm_X12_beside_0 hown hK hP 1 rfl rfl 2 (by decide) (hts _ (dmem (j := 5) rfl)) (fun _ h9 => h9) rfl dX12_beside_39 ?_
    refine lv_bipush (v := 8) hx hb dX12_beside_42 (by decide) ?_
    refine va_iald hx hb hK hP 2 0 rfl rfl (vp_in_iff.mpr (by decide)) dX12_beside_44 ?_
    refine lv_topi (fun x8 ex8 => ?_)
    obtain rfl : 0 = x8 := (ex8.trans (by first | rfl | decide | (simp [upd, mrow]; done))).symm
    refine goV (As := [.int 0]) (rest := []) (wr := [(h0_4, .inl (cI, 35942, .inl (gq6 0))), (h0_2, .inl (cI, 35942, .inl mrow))]) ⟨hx, hb, hml, hown, hts⟩ (c_X12_readText_v1 l G cI cJ cZ cD cR cT h0 0 h0_2 h0_3 h0_4 h0_5 h0_9 h0_10 h0_11 h0_20 h0_22 h0_23 h0_25 h0_26 h0_29 h0_30 h0_31 h0_32 h0_39 h0_40 h0_42 h0_44 h0_45 _ (by first | omega | decide)) (cwV 1 hts gv_X12_beside_385_X12_readText_v1 rfl rfl rfl (by decide +kernel) ⟨Nat.le_of_ble_eq_true rfl, Nat.le_of_ble_eq_true rfl⟩) 1 rfl rfl rfl hKK hP hD hS hA [1] [0, 2] rfl rfl (by decide +kernel) (by decide +kernel) (by decide +kernel) rfl hl.1 rfl (lv_room (Nat.le_of_ble_eq_true rfl)) dX12_beside_45 ⟨Nat.le_of_ble_eq_true rfl, Nat.le_of_ble_eq_true rfl⟩ (fun v10 q9 gq9 H locs hv10 => appW (ws' := [(h0_4, .inl (cI, 35942, .inl (gq6 0))), (h0_2, .inl (cI, 35942, .inl mrow)), (h0, .inr (12, [.int 0, .int 0, .ref h0_2, .ref h0_3, .ref h0_4, .ref h0_5, .int 0, .int 0, .int 0, .ref h0_9, .ref h0_10, .ref h0_11, .int 0, .int 0, .int 0, .int 0, .long 0, .int 0, .int 1, .int 0, .ref h0_20, .int 0, .ref h0_22, .ref h0_23, .int 0, .ref h0_25, .ref h0_26, .int 0, .int 0, .ref h0_29, .ref h0_30, .ref h0_31, .ref h0_32, .int 0, .long 0, .long 0, .long 0, .long 0, .int 0, .ref h0_39, .ref h0_40, .int 0, .ref h0_42, .int 0, .ref h0_44, .ref h0_45, .int 0, .int 0, .int 0, .int 0, .int 0, .int 0]))]) rfl (fun hP hD hS => ?_))
    obtain ⟨_, rfl, rfl⟩ := hv10
    refine lv_istore_n (lv' := [(2, .int 0), (0, .ref h0), (1, .int u1)]) hx hb dX12_beside_48 rfl hl (by decide) rfl (fun ls hl => ?_)
    refine lv_aload_n hx hb dX12_beside_49 rfl (lv_at hl 1 rfl) ?_
    refine lv_iconst (v := 0) hx hb dX12_beside_50 (by decide) ?_
    refine va_put (D := G) (ci := 12) (v := .int 0) (ty := .int) (C := RX12) (T := TX12) (N := 52) hx hb hts cm_X12_beside_0 tyX12 tyX12_ok nmX12 hown hK hP hD hS 2 rfl rfl 12 (by decide) (hts _ (dmem (j := 12) rfl)) (fun _ h9 => h9) rfl (by decide +kernel) rfl rfl (Nat.le_of_ble_eq_true rfl) dX12_beside_51 (fun H locs => setW (ws' := [(h0_4, .inl (cI, 35942, .inl (gq6 0))), (h0_2, .inl (cI, 35942, .inl mrow)), (h0, .inr (12, [.int 0, .int 0, .ref h0_2, .ref h0_3, .ref h0_4, .ref h0_5, .int 0, .int 0, .int 0, .ref h0_9, .ref h0_10, .ref h0_11, .int 0, .int 0, .int 0, .int 0, .long 0, .int 0, .int 1, .int 0, .ref h0_20, .int 0, .ref h0_22, .ref h0_23, .int 0, .ref h0_25, .ref h0_26, .int 0, .int 0, .ref h0_29, .ref h0_30, .ref h0_31, .ref h0_32, .int 0, .long 0, .long 0, .long 0, .long 0, .int 0, .ref h0_39, .ref h0_40, .int 0, .ref h0_42, .int 0, .ref h0_44, .ref h0_45, .int 0, .int 0, .int 0, .int 0, .int 0, .int 0]))]) rfl (fun hP hD hS => ?_))
    refine lv_iload_n hx hb dX12_beside_54 rfl (lv_at hl 0 rfl) ?_
    refine lv_if_ne (tgt := 62) hx hb dX12_beside_55 (by decide) (fun c => absurd c (by decide)) (fun _ => ?_)
    refine lv_ldc2 (v := (-2000000000000)) hx hb hown (hts _ (dmem (j := 13) rfl)) dX12_beside_58 ?_
    exact retL hx hb hr hlocks ⟨_, rfl, rfl⟩ hP hD hS (fun _ => 0) (fun _ _ => 0) [] (by decide +kernel) rfl dX12_beside_61
  · refine lv_if_eq (tgt := 24) hx hb dX12_beside_10 (by decide) (fun _ => ?_) (fun c => absurd c (by decide))
    refine lv_aload_n hx hb dX12_beside_24 rfl (lv_at hl 0 rfl) ?_
    refine lv_iconst (v := 0) hx hb dX12_beside_25 (by decide) ?_
    refine va_put (D := G) (ci := 12) (v := .int 0) (ty := .int) (C := RX12) (T := TX12) (N := 52) hx hb hts cm_X12_beside_0 tyX12 tyX12_ok nmX12 hown hK hP hD hS 1 rfl rfl 12 (by decide) (hts _ (dmem (j := 12) rfl)) (fun _ h9 => h9) rfl (by decide +kernel) rfl rfl (Nat.le_of_ble_eq_true rfl) dX12_beside_26 (fun H locs => setW (ws' := [(h0_4, .inl (cI, 35942, .inl (fun _ => 0))), (h0, .inr (12, [.int 0, .int 0, .ref h0_2, .ref h0_3, .ref h0_4, .ref h0_5, .int 0, .int 0, .int 0, .ref h0_9, .ref h0_10, .ref h0_11, .int 0, .int 0, .int 0, .int 0, .long 0, .int (-1), .int 0, .int 0, .ref h0_20, .int 0, .ref h0_22, .ref h0_23, .int 0, .ref h0_25, .ref h0_26, .int 0, .int 0, .ref h0_29, .ref h0_30, .ref h0_31, .ref h0_32, .int 0, .long 0, .long 0, .long 0, .long 0, .int 0, .ref h0_39, .ref h0_40, .int 0, .ref h0_42, .int 0, .ref h0_44, .ref h0_45, .int 0, .int 0, .int 0, .int 0, .int 0, .int 0])), (h0_2, .inl (cI, 35942, .inl mrow))]) rfl (fun hP hD hS => ?_))
    refine lv_ldc2 (v := (-2000000000000)) hx hb hown (hts _ (dmem (j := 13) rfl)) dX12_beside_29 ?_
    exact retL hx hb hr hlocks ⟨_, rfl, rfl⟩ hP hD hS (fun _ => 0) (fun _ _ => 0) [] (by decide +kernel) rfl dX12_beside_32
def d_X12_addFields_v1 : List Cond := [Cond.fieldLink RX12 537 "NoRentModel" "fieldSum" "I", Cond.fieldLink RX12 540 "NoRentModel" "fieldPlaces" "I", Cond.fieldLink RX12 8 "NoRentModel" "row" "[I"]
def v_X12_addFields_v1 : List Cond := Cond.code yX12_addFields cX12_addFields 2 none :: (d_X12_addFields_v1 ++ (wsX120 ++ ([] : List Cond)))
theorem cm_X12_addFields_v1_0 : ∀ w ∈ wsX120, w ∈ v_X12_addFields_v1 := fun _ h => List.mem_cons_of_mem _ (List.mem_append_right _ (List.mem_append_left _ h))
theorem gd_X12_addFields_v1 : Gd v_X12_addFields_v1 := gd_mk (by decide +kernel) (gd_app gd_X12 gd_nil)
set_option maxHeartbeats 4000000 in
set_option maxRecDepth 100000 in
theorem c_X12_addFields_v1 (l : Launch) (G : va_G) (cI cJ cZ cD cR cT : ClassId) (h0 : Nat) (h0_2 : Nat) (h0_3 : Nat) (h0_4 : Nat) (h0_5 : Nat) (h0_9 : Nat) (h0_10 : Nat) (h0_11 : Nat) (h0_20 : Nat) (h0_22 : Nat) (h0_23 : Nat) (h0_25 : Nat) (h0_26 : Nat) (h0_29 : Nat) (h0_30 : Nat) (h0_31 : Nat) (h0_32 : Nat) (h0_39 : Nat) (h0_40 : Nat) (h0_42 : Nat) (h0_44 : Nat) (h0_45 : Nat) (sz : Nat) : Met l yX12_addFields v_X12_addFields_v1 ({ frames := 1, cells := 0, slots := 0, locals := 40 }) (va_Pc [.ref h0] (PreW G (tys6 cI cJ cZ cD cR cT) [(h0, .inr (12, [.int 0, .int 0, .ref h0_2, .ref h0_3, .ref h0_4, .ref h0_5, .int 0, .int 0, .int 0, .ref h0_9, .ref h0_10, .ref h0_11, .int 0, .int 0, .int 0, .int 0, .long 0, .int (-1), .int 0, .int 0, .ref h0_20, .int 0, .ref h0_22, .ref h0_23, .int 0, .ref h0_25, .ref h0_26, .int 0, .int 0, .ref h0_29, .ref h0_30, .ref h0_31, .ref h0_32, .int 0, .long 0, .long 0, .long 0, .long 0, .int 0, .ref h0_39, .ref h0_40, .int 0, .ref h0_42, .int 0, .ref h0_44, .ref h0_45, .int 0, .int 0, .int 0, .int 0, .int 0, .int 0])), (h0_2, .inl (cI, 35942, .inl mrow))] sz)) (QW RV G (va_A [(h0, .inr (12, [.int 0, .int 0, .ref h0_2, .ref h0_3, .ref h0_4, .ref h0_5, .int 0, .int 0, .int 0, .ref h0_9, .ref h0_10, .ref h0_11, .int 0, .int 0, .int 0, .int 0, .long 0, .int (-1), .int 0, .int 0, .ref h0_20, .int 0, .ref h0_22, .ref h0_23, .int 0, .ref h0_25, .ref h0_26, .int 0, .int 0, .ref h0_29, .ref h0_30, .ref h0_31, .ref h0_32, .int 0, .long 0, .long 0, .long 0, .long 0, .int 0, .ref h0_39, .ref h0_40, .int 0, .ref h0_42, .int 0, .ref h0_44, .ref h0_45, .int 0, .int 0, .int 0, .int 0, .int 0, .int 0])), (h0_2, .inl (cI, 35942, .inl mrow))] sz) (fun q g => [(h0, .inr (12, [.int 0, .int 0, .ref h0_2, .ref h0_3, .ref h0_4, .ref h0_5, .int 0, .int 0, .int 0, .ref h0_9, .ref h0_10, .ref h0_11, .int 0, .int 0, .int 0, .int 0, .long 0, .int (-1), .int 0, .int 0, .ref h0_20, .int 0, .ref h0_22, .ref h0_23, .int 0, .ref h0_25, .ref h0_26, .int 0, .int 0, .ref h0_29, .ref h0_30, .ref h0_31, .ref h0_32, .int 0, .long 0, .long 0, .long 0, .long 0, .int 0, .ref h0_39, .ref h0_40, .int 0, .ref h0_42, .int 0, .ref h0_44, .ref h0_45, .int 0, .int 0, .int 0, .int 0, .int 0, .int 0])), (h0_2, .inl (cI, 35942, .inl mrow))])) 0 0 (va_A [(h0, .inr (12, [.int 0, .int 0, .ref h0_2, .ref h0_3, .ref h0_4, .ref h0_5, .int 0, .int 0, .int 0, .ref h0_9, .ref h0_10, .ref h0_11, .int 0, .int 0, .int 0, .int 0, .long 0, .int (-1), .int 0, .int 0, .ref h0_20, .int 0, .ref h0_22, .ref h0_23, .int 0, .ref h0_25, .ref h0_26, .int 0, .int 0, .ref h0_29, .ref h0_30, .ref h0_31, .ref h0_32, .int 0, .long 0, .long 0, .long 0, .long 0, .int 0, .ref h0_39, .ref h0_40, .int 0, .ref h0_42, .int 0, .ref h0_44, .ref h0_45, .int 0, .int 0, .int 0, .int 0, .int 0, .int 0])), (h0_2, .inl (cI, 35942, .inl mrow))] sz) := by
  refine metW (cc := cX12_addFields) (maxL := 2) (ret := none) (by decide) rfl (Nat.le_of_ble_eq_true rfl) ?_
  intro p e s m below meth c A ls hx hb hr hml hown hts hlocks hin hKK hP hD hA hS hl
  have hK := hKK.1
  have hown : s.vm.findClass RX12 = some m.cls := hown
  have hl : lv_has ls 2 [(0, .ref h0)] := hl
  have hP : va_P G vwCl [(h0, .inr (12, [.int 0, .int 0, .ref h0_2, .ref h0_3, .ref h0_4, .ref h0_5, .int 0, .int 0, .int 0, .ref h0_9, .ref h0_10, .ref h0_11, .int 0, .int 0, .int 0, .int 0, .long 0, .int (-1), .int 0, .int 0, .ref h0_20, .int 0, .ref h0_22, .ref h0_23, .int 0, .ref h0_25, .ref h0_26, .int 0, .int 0, .ref h0_29, .ref h0_30, .ref h0_31, .ref h0_32, .int 0, .long 0, .long 0, .long 0, .long 0, .int 0, .ref h0_39, .ref h0_40, .int 0, .ref h0_42, .int 0, .ref h0_44, .ref h0_45, .int 0, .int 0, .int 0, .int 0, .int 0, .int 0])), (h0_2, .inl (cI, 35942, .inl mrow))] s.heap := hP
  have hD : va_D A [(h0, .inr (12, [.int 0, .int 0, .ref h0_2, .ref h0_3, .ref h0_4, .ref h0_5, .int 0, .int 0, .int 0, .ref h0_9, .ref h0_10, .ref h0_11, .int 0, .int 0, .int 0, .int 0, .long 0, .int (-1), .int 0, .int 0, .ref h0_20, .int 0, .ref h0_22, .ref h0_23, .int 0, .ref h0_25, .ref h0_26, .int 0, .int 0, .ref h0_29, .ref h0_30, .ref h0_31, .ref h0_32, .int 0, .long 0, .long 0, .long 0, .long 0, .int 0, .ref h0_39, .ref h0_40, .int 0, .ref h0_42, .int 0, .ref h0_44, .ref h0_45, .int 0, .int 0, .int 0, .int 0, .int 0, .int 0])), (h0_2, .inl (cI, 35942, .inl mrow))] := hD
  refine lv_aload_n hx hb dX12_addFields_0 rfl (lv_at hl 0 rfl) ?_
  refine lv_iconst (v := 0) hx hb dX12_addFields_1 (by decide) ?_
  refine va_put (D := G) (ci := 12) (v := .int 0) (ty := .int) (C := RX12) (T := TX12) (N := 52) hx hb hts cm_X12_addFields_v1_0 tyX12 tyX12_ok nmX12 hown hK hP hD hS 0 rfl rfl 50 (by decide) (hts _ (dmem (j := 0) rfl)) (fun _ h9 => h9) rfl (by decide +kernel) rfl rfl (Nat.le_of_ble_eq_true rfl) dX12_addFields_2 (fun H locs => setW (ws' := [(h0, .inr (12, [.int 0, .int 0, .ref h0_2, .ref h0_3, .ref h0_4, .ref h0_5, .int 0, .int 0, .int 0, .ref h0_9, .ref h0_10, .ref h0_11, .int 0, .int 0, .int 0, .int 0, .long 0, .int (-1), .int 0, .int 0, .ref h0_20, .int 0, .ref h0_22, .ref h0_23, .int 0, .ref h0_25, .ref h0_26, .int 0, .int 0, .ref h0_29, .ref h0_30, .ref h0_31, .ref h0_32, .int 0, .long 0, .long 0, .long 0, .long 0, .int 0, .ref h0_39, .ref h0_40, .int 0, .ref h0_42, .int 0, .ref h0_44, .ref h0_45, .int 0, .int 0, .int 0, .int 0, .int 0, .int 0])), (h0_2, .inl (cI, 35942, .inl mrow))]) rfl (fun hP hD hS => ?_))
  refine lv_aload_n hx hb dX12_addFields_5 rfl (lv_at hl 0 rfl) ?_
  refine lv_iconst (v := 0) hx hb dX12_addFields_6 (by decide) ?_
  refine va_put (D := G) (ci := 12) (v := .int 0) (ty := .int) (C := RX12) (T := TX12) (N := 52) hx hb hts cm_X12_addFields_v1_0 tyX12 tyX12_ok nmX12 hown hK hP hD hS 0 rfl rfl 51 (by decide) (hts _ (dmem (j := 1) rfl)) (fun _ h9 => h9) rfl (by decide +kernel) rfl rfl (Nat.le_of_ble_eq_true rfl) dX12_addFields_7 (fun H locs => setW (ws' := [(h0, .inr (12, [.int 0, .int 0, .ref h0_2, .ref h0_3, .ref h0_4, .ref h0_5, .int 0, .int 0, .int 0, .ref h0_9, .ref h0_10, .ref h0_11, .int 0, .int 0, .int 0, .int 0, .long 0, .int (-1), .int 0, .int 0, .ref h0_20, .int 0, .ref h0_22, .ref h0_23, .int 0, .ref h0_25, .ref h0_26, .int 0, .int 0, .ref h0_29, .ref h0_30, .ref h0_31, .ref h0_32, .int 0, .long 0, .long 0, .long 0, .long 0, .int 0, .ref h0_39, .ref h0_40, .int 0, .ref h0_42, .int 0, .ref h0_44, .ref h0_45, .int 0, .int 0, .int 0, .int 0, .int 0, .int 0])), (h0_2, .inl (cI, 35942, .inl mrow))]) rfl (fun hP hD hS => ?_))
  refine lv_iconst (v := 0) hx hb dX12_addFields_10 (by decide) ?_
  refine lv_istore_n (lv' := [(1, .int 0), (0, .ref h0)]) hx hb dX12_addFields_11 rfl hl (by decide) rfl (fun ls hl => ?_)
  refine lv_iload_n hx hb dX12_addFields_12 rfl (lv_at hl 0 rfl) ?_
  refine lv_aload_n hx hb dX12_addFields_13 rfl (lv_at hl 1 rfl) ?_
  refine va_get (D := G) (ci := 12) (v := .ref h0_2) (C := RX12) (T := TX12) (N := 52) hx hb hts cm_X12_addFields_v1_0 hown hK hP 0 rfl rfl 2 (by decide) (hts _ (dmem (j := 2) rfl)) (fun _ h9 => h9) rfl dX12_addFields_14 ?_
  refine lv_iconst (v := 2) hx hb dX12_addFields_17 (by decide) ?_
  refine va_iald hx hb hK hP 1 0 rfl rfl (vp_in_iff.mpr (by decide)) dX12_addFields_18 ?_
  refine lv_topi (fun x1 ex1 => ?_)
  obtain rfl : 0 = x1 := (ex1.trans (by first | rfl | decide | (simp [upd, mrow]; done))).symm
  refine lv_icmp_ge (tgt := 72) hx hb dX12_addFields_19 (by decide) (fun _ => ?_) (fun c => absurd c (by decide))
  exact retV hx hb hr hlocks rfl hP hD hS (fun _ => 0) (fun _ _ => 0) [0, 1] (by decide +kernel) rfl dX12_addFields_72
def d_X12_seal : List Cond := [Cond.fieldLink RX12 82 "NoRentModel" "thrown" "I", Cond.methodLink RX12 543 yX12_addFields, Cond.instanceMethod yX12_addFields, Cond.selects RX12 yX12_addFields yX12_addFields, Cond.initialized RX12, Cond.fieldLink RX12 8 "NoRentModel" "row" "[I", Cond.fieldLink RX12 537 "NoRentModel" "fieldSum" "I", Cond.fieldLink RX12 540 "NoRentModel" "fieldPlaces" "I"]
def v_X12_seal : List Cond := Cond.code yX12_seal cX12_seal 1 (some .int) :: (d_X12_seal ++ (wsX120 ++ (v_X12_addFields_v1 ++ ([] : List Cond))))
theorem cm_X12_seal_0 : ∀ w ∈ wsX120, w ∈ v_X12_seal := fun _ h => List.mem_cons_of_mem _ (List.mem_append_right _ (List.mem_append_left _ h))
theorem cm_X12_seal_1 : ∀ w ∈ v_X12_addFields_v1, w ∈ v_X12_seal := fun _ h => List.mem_cons_of_mem _ (List.mem_append_right _ (List.mem_append_right _ (List.mem_append_left _ h)))
theorem gd_X12_seal : Gd v_X12_seal := gd_mk (by decide +kernel) (gd_app gd_X12 (gd_app gd_X12_addFields_v1 gd_nil))
set_option maxRecDepth 20000 in
theorem gv_X12_seal_543_X12_addFields_v1 : GoodIn v_X12_seal (wsV RX12 543 RX12 yX12_addFields v_X12_addFields_v1) := goodIn_app (goodIn_of _ (by decide +kernel)) (gi cm_X12_seal_1 gd_X12_addFields_v1)
set_option maxHeartbeats 4000000 in
set_option maxRecDepth 100000 in
theorem c_X12_seal (l : Launch) (G : va_G) (cI cJ cZ cD cR cT : ClassId) (h0 : Nat) (h0_2 : Nat) (h0_3 : Nat) (h0_4 : Nat) (h0_5 : Nat) (h0_9 : Nat) (h0_10 : Nat) (h0_11 : Nat) (h0_20 : Nat) (h0_22 : Nat) (h0_23 : Nat) (h0_25 : Nat) (h0_26 : Nat) (h0_29 : Nat) (h0_30 : Nat) (h0_31 : Nat) (h0_32 : Nat) (h0_39 : Nat) (h0_40 : Nat) (h0_42 : Nat) (h0_44 : Nat) (h0_45 : Nat) (sz : Nat) : Met l yX12_seal v_X12_seal ({ frames := 2, cells := 0, slots := 0, locals := 61 }) (va_Pc [.ref h0] (PreW G (tys6 cI cJ cZ cD cR cT) [(h0, .inr (12, [.int 0, .int 0, .ref h0_2, .ref h0_3, .ref h0_4, .ref h0_5, .int 0, .int 0, .int 0, .ref h0_9, .ref h0_10, .ref h0_11, .int 0, .int 0, .int 0, .int 0, .long 0, .int (-1), .int 0, .int 0, .ref h0_20, .int 0, .ref h0_22, .ref h0_23, .int 0, .ref h0_25, .ref h0_26, .int 0, .int 0, .ref h0_29, .ref h0_30, .ref h0_31, .ref h0_32, .int 0, .long 0, .long 0, .long 0, .long 0, .int 0, .ref h0_39, .ref h0_40, .int 0, .ref h0_42, .int 0, .ref h0_44, .ref h0_45, .int 0, .int 0, .int 0, .int 0, .int 0, .int 0])), (h0_2, .inl (cI, 35942, .inl mrow))] sz)) (QW (RI (fun r => r = F_seal)) G (va_A [(h0, .inr (12, [.int 0, .int 0, .ref h0_2, .ref h0_3, .ref h0_4, .ref h0_5, .int 0, .int 0, .int 0, .ref h0_9, .ref h0_10, .ref h0_11, .int 0, .int 0, .int 0, .int 0, .long 0, .int (-1), .int 0, .int 0, .ref h0_20, .int 0, .ref h0_22, .ref h0_23, .int 0, .ref h0_25, .ref h0_26, .int 0, .int 0, .ref h0_29, .ref h0_30, .ref h0_31, .ref h0_32, .int 0, .long 0, .long 0, .long 0, .long 0, .int 0, .ref h0_39, .ref h0_40, .int 0, .ref h0_42, .int 0, .ref h0_44, .ref h0_45, .int 0, .int 0, .int 0, .int 0, .int 0, .int 0])), (h0_2, .inl (cI, 35942, .inl mrow))] sz) (fun q g => [])) 0 0 (va_A [(h0, .inr (12, [.int 0, .int 0, .ref h0_2, .ref h0_3, .ref h0_4, .ref h0_5, .int 0, .int 0, .int 0, .ref h0_9, .ref h0_10, .ref h0_11, .int 0, .int 0, .int 0, .int 0, .long 0, .int (-1), .int 0, .int 0, .ref h0_20, .int 0, .ref h0_22, .ref h0_23, .int 0, .ref h0_25, .ref h0_26, .int 0, .int 0, .ref h0_29, .ref h0_30, .ref h0_31, .ref h0_32, .int 0, .long 0, .long 0, .long 0, .long 0, .int 0, .ref h0_39, .ref h0_40, .int 0, .ref h0_42, .int 0, .ref h0_44, .ref h0_45, .int 0, .int 0, .int 0, .int 0, .int 0, .int 0])), (h0_2, .inl (cI, 35942, .inl mrow))] sz) := by
  refine metW (cc := cX12_seal) (maxL := 1) (ret := (some .int)) (by decide) rfl (Nat.le_of_ble_eq_true rfl) ?_
  intro p e s m below meth c A ls hx hb hr hml hown hts hlocks hin hKK hP hD hA hS hl
  have hK := hKK.1
  have hown : s.vm.findClass RX12 = some m.cls := hown
  have hl : lv_has ls 1 [(0, .ref h0)] := hl
  have hP : va_P G vwCl [(h0, .inr (12, [.int 0, .int 0, .ref h0_2, .ref h0_3, .ref h0_4, .ref h0_5, .int 0, .int 0, .int 0, .ref h0_9, .ref h0_10, .ref h0_11, .int 0, .int 0, .int 0, .int 0, .long 0, .int (-1), .int 0, .int 0, .ref h0_20, .int 0, .ref h0_22, .ref h0_23, .int 0, .ref h0_25, .ref h0_26, .int 0, .int 0, .ref h0_29, .ref h0_30, .ref h0_31, .ref h0_32, .int 0, .long 0, .long 0, .long 0, .long 0, .int 0, .ref h0_39, .ref h0_40, .int 0, .ref h0_42, .int 0, .ref h0_44, .ref h0_45, .int 0, .int 0, .int 0, .int 0, .int 0, .int 0])), (h0_2, .inl (cI, 35942, .inl mrow))] s.heap := hP
  have hD : va_D A [(h0, .inr (12, [.int 0, .int 0, .ref h0_2, .ref h0_3, .ref h0_4, .ref h0_5, .int 0, .int 0, .int 0, .ref h0_9, .ref h0_10, .ref h0_11, .int 0, .int 0, .int 0, .int 0, .long 0, .int (-1), .int 0, .int 0, .ref h0_20, .int 0, .ref h0_22, .ref h0_23, .int 0, .ref h0_25, .ref h0_26, .int 0, .int 0, .ref h0_29, .ref h0_30, .ref h0_31, .ref h0_32, .int 0, .long 0, .long 0, .long 0, .long 0, .int 0, .ref h0_39, .ref h0_40, .int 0, .ref h0_42, .int 0, .ref h0_44, .ref h0_45, .int 0, .int 0, .int 0, .int 0, .int 0, .int 0])), (h0_2, .inl (cI, 35942, .inl mrow))] := hD
  refine lv_aload_n hx hb dX12_seal_0 rfl (lv_at hl 0 rfl) ?_
  refine lv_iconst (v := 0) hx hb dX12_seal_1 (by decide) ?_
  refine va_put (D := G) (ci := 12) (v := .int 0) (ty := .int) (C := RX12) (T := TX12) (N := 52) hx hb hts cm_X12_seal_0 tyX12 tyX12_ok nmX12 hown hK hP hD hS 0 rfl rfl 0 (by decide) (hts _ (dmem (j := 0) rfl)) (fun _ h9 => h9) rfl (by decide +kernel) rfl rfl (Nat.le_of_ble_eq_true rfl) dX12_seal_2 (fun H locs => setW (ws' := [(h0, .inr (12, [.int 0, .int 0, .ref h0_2, .ref h0_3, .ref h0_4, .ref h0_5, .int 0, .int 0, .int 0, .ref h0_9, .ref h0_10, .ref h0_11, .int 0, .int 0, .int 0, .int 0, .long 0, .int (-1), .int 0, .int 0, .ref h0_20, .int 0, .ref h0_22, .ref h0_23, .int 0, .ref h0_25, .ref h0_26, .int 0, .int 0, .ref h0_29, .ref h0_30, .ref h0_31, .ref h0_32, .int 0, .long 0, .long 0, .long 0, .long 0, .int 0, .ref h0_39, .ref h0_40, .int 0, .ref h0_42, .int 0, .ref h0_44, .ref h0_45, .int 0, .int 0, .int 0, .int 0, .int 0, .int 0])), (h0_2, .inl (cI, 35942, .inl mrow))]) rfl (fun hP hD hS => ?_))
  refine lv_aload_n hx hb dX12_seal_5 rfl (lv_at hl 0 rfl) ?_
  refine goV (As := []) (rest := []) (wr := []) ⟨hx, hb, hml, hown, hts⟩ (c_X12_addFields_v1 l G cI cJ cZ cD cR cT h0 h0_2 h0_3 h0_4 h0_5 h0_9 h0_10 h0_11 h0_20 h0_22 h0_23 h0_25 h0_26 h0_29 h0_30 h0_31 h0_32 h0_39 h0_40 h0_42 h0_44 h0_45 _) (cwV 0 hts gv_X12_seal_543_X12_addFields_v1 rfl rfl rfl (by decide +kernel) ⟨Nat.le_of_ble_eq_true rfl, Nat.le_of_ble_eq_true rfl⟩) 0 rfl rfl rfl hKK hP hD hS hA [0, 1] [] rfl rfl (by decide +kernel) (by decide +kernel) (by decide +kernel) rfl hl.1 rfl (lv_room (Nat.le_of_ble_eq_true rfl)) dX12_seal_6 ⟨Nat.le_of_ble_eq_true rfl, Nat.le_of_ble_eq_true rfl⟩ (fun v2 q1 gq1 H locs hv2 => appW (ws' := [(h0, .inr (12, [.int 0, .int 0, .ref h0_2, .ref h0_3, .ref h0_4, .ref h0_5, .int 0, .int 0, .int 0, .ref h0_9, .ref h0_10, .ref h0_11, .int 0, .int 0, .int 0, .int 0, .long 0, .int (-1), .int 0, .int 0, .ref h0_20, .int 0, .ref h0_22, .ref h0_23, .int 0, .ref h0_25, .ref h0_26, .int 0, .int 0, .ref h0_29, .ref h0_30, .ref h0_31, .ref h0_32, .int 0, .long 0, .long 0, .long 0, .long 0, .int 0, .ref h0_39, .ref h0_40, .int 0, .ref h0_42, .int 0, .ref h0_44, .ref h0_45, .int 0, .int 0, .int 0, .int 0, .int 0, .int 0])), (h0_2, .inl (cI, 35942, .inl mrow))]) rfl (fun hP hD hS => ?_))
  obtain rfl := hv2
  refine lv_aload_n hx hb dX12_seal_9 rfl (lv_at hl 0 rfl) ?_
  refine va_get (D := G) (ci := 12) (v := .ref h0_2) (C := RX12) (T := TX12) (N := 52) hx hb hts cm_X12_seal_0 hown hK hP 0 rfl rfl 2 (by decide) (hts _ (dmem (j := 5) rfl)) (fun _ h9 => h9) rfl dX12_seal_10 ?_
  refine lv_bipush (v := 11) hx hb dX12_seal_13 (by decide) ?_
  refine lv_aload_n hx hb dX12_seal_15 rfl (lv_at hl 0 rfl) ?_
  refine va_get (D := G) (ci := 12) (v := .ref h0_2) (C := RX12) (T := TX12) (N := 52) hx hb hts cm_X12_seal_0 hown hK hP 0 rfl rfl 2 (by decide) (hts _ (dmem (j := 5) rfl)) (fun _ h9 => h9) rfl dX12_seal_16 ?_
  refine lv_iconst (v := 2) hx hb dX12_seal_19 (by decide) ?_
  refine va_iald hx hb hK hP 1 0 rfl rfl (vp_in_iff.mpr (by decide)) dX12_seal_20 ?_
  refine lv_topi (fun x3 ex3 => ?_)
  obtain rfl : 0 = x3 := (ex3.trans (by first | rfl | decide | (simp [upd, mrow]; done))).symm
  refine lv_iconst (v := 1) hx hb dX12_seal_21 (by decide) ?_
  refine lv_iadd hx hb dX12_seal_22 ?_
  refine lv_topi (fun x4 ex4 => ?_)
  obtain rfl : 1 = x4 := (ex4.trans (by decide)).symm
  refine va_iast hx hb hK hP hD hS 1 0 rfl rfl (vp_in_iff.mpr (by decide)) dX12_seal_23 (fun H locs => setW (ws' := [(h0, .inr (12, [.int 0, .int 0, .ref h0_2, .ref h0_3, .ref h0_4, .ref h0_5, .int 0, .int 0, .int 0, .ref h0_9, .ref h0_10, .ref h0_11, .int 0, .int 0, .int 0, .int 0, .long 0, .int (-1), .int 0, .int 0, .ref h0_20, .int 0, .ref h0_22, .ref h0_23, .int 0, .ref h0_25, .ref h0_26, .int 0, .int 0, .ref h0_29, .ref h0_30, .ref h0_31, .ref h0_32, .int 0, .long 0, .long 0, .long 0, .long 0, .int 0, .ref h0_39, .ref h0_40, .int 0, .ref h0_42, .int 0, .ref h0_44, .ref h0_45, .int 0, .int 0, .int 0, .int 0, .int 0, .int 0])), (h0_2, .inl (cI, 35942, .inl (upd mrow 11 1)))]) rfl (fun hP hD hS => ?_))
  refine lv_aload_n hx hb dX12_seal_24 rfl (lv_at hl 0 rfl) ?_
  refine va_get (D := G) (ci := 12) (v := .ref h0_2) (C := RX12) (T := TX12) (N := 52) hx hb hts cm_X12_seal_0 hown hK hP 0 rfl rfl 2 (by decide) (hts _ (dmem (j := 5) rfl)) (fun _ h9 => h9) rfl dX12_seal_25 ?_
  refine lv_bipush (v := 12) hx hb dX12_seal_28 (by decide) ?_
  refine lv_aload_n hx hb dX12_seal_30 rfl (lv_at hl 0 rfl) ?_
  refine va_get (D := G) (ci := 12) (v := .int 0) (C := RX12) (T := TX12) (N := 52) hx hb hts cm_X12_seal_0 hown hK hP 0 rfl rfl 50 (by decide) (hts _ (dmem (j := 6) rfl)) (fun _ h9 => h9) rfl dX12_seal_31 ?_
  refine va_iast hx hb hK hP hD hS 1 0 rfl rfl (vp_in_iff.mpr (by decide)) dX12_seal_34 (fun H locs => setW (ws' := [(h0, .inr (12, [.int 0, .int 0, .ref h0_2, .ref h0_3, .ref h0_4, .ref h0_5, .int 0, .int 0, .int 0, .ref h0_9, .ref h0_10, .ref h0_11, .int 0, .int 0, .int 0, .int 0, .long 0, .int (-1), .int 0, .int 0, .ref h0_20, .int 0, .ref h0_22, .ref h0_23, .int 0, .ref h0_25, .ref h0_26, .int 0, .int 0, .ref h0_29, .ref h0_30, .ref h0_31, .ref h0_32, .int 0, .long 0, .long 0, .long 0, .long 0, .int 0, .ref h0_39, .ref h0_40, .int 0, .ref h0_42, .int 0, .ref h0_44, .ref h0_45, .int 0, .int 0, .int 0, .int 0, .int 0, .int 0])), (h0_2, .inl (cI, 35942, .inl (upd (upd mrow 11 1) 12 0)))]) rfl (fun hP hD hS => ?_))
  refine lv_aload_n hx hb dX12_seal_35 rfl (lv_at hl 0 rfl) ?_
  refine va_get (D := G) (ci := 12) (v := .ref h0_2) (C := RX12) (T := TX12) (N := 52) hx hb hts cm_X12_seal_0 hown hK hP 0 rfl rfl 2 (by decide) (hts _ (dmem (j := 5) rfl)) (fun _ h9 => h9) rfl dX12_seal_36 ?_
  refine lv_bipush (v := 13) hx hb dX12_seal_39 (by decide) ?_
  refine lv_aload_n hx hb dX12_seal_41 rfl (lv_at hl 0 rfl) ?_
  refine va_get (D := G) (ci := 12) (v := .int 0) (C := RX12) (T := TX12) (N := 52) hx hb hts cm_X12_seal_0 hown hK hP 0 rfl rfl 51 (by decide) (hts _ (dmem (j := 7) rfl)) (fun _ h9 => h9) rfl dX12_seal_42 ?_
  refine va_iast hx hb hK hP hD hS 1 0 rfl rfl (vp_in_iff.mpr (by decide)) dX12_seal_45 (fun H locs => setW (ws' := [(h0, .inr (12, [.int 0, .int 0, .ref h0_2, .ref h0_3, .ref h0_4, .ref h0_5, .int 0, .int 0, .int 0, .ref h0_9, .ref h0_10, .ref h0_11, .int 0, .int 0, .int 0, .int 0, .long 0, .int (-1), .int 0, .int 0, .ref h0_20, .int 0, .ref h0_22, .ref h0_23, .int 0, .ref h0_25, .ref h0_26, .int 0, .int 0, .ref h0_29, .ref h0_30, .ref h0_31, .ref h0_32, .int 0, .long 0, .long 0, .long 0, .long 0, .int 0, .ref h0_39, .ref h0_40, .int 0, .ref h0_42, .int 0, .ref h0_44, .ref h0_45, .int 0, .int 0, .int 0, .int 0, .int 0, .int 0])), (h0_2, .inl (cI, 35942, .inl (upd (upd (upd mrow 11 1) 12 0) 13 0)))]) rfl (fun hP hD hS => ?_))
  refine lv_aload_n hx hb dX12_seal_46 rfl (lv_at hl 0 rfl) ?_
  refine va_get (D := G) (ci := 12) (v := .ref h0_2) (C := RX12) (T := TX12) (N := 52) hx hb hts cm_X12_seal_0 hown hK hP 0 rfl rfl 2 (by decide) (hts _ (dmem (j := 5) rfl)) (fun _ h9 => h9) rfl dX12_seal_47 ?_
  refine lv_iconst (v := 2) hx hb dX12_seal_50 (by decide) ?_
  refine va_iald hx hb hK hP 1 0 rfl rfl (vp_in_iff.mpr (by decide)) dX12_seal_51 ?_
  refine lv_topi (fun x5 ex5 => ?_)
  obtain rfl : 0 = x5 := (ex5.trans (by first | rfl | decide | (simp [upd, mrow]; done))).symm
  exact retI hx hb hr hlocks ⟨_, rfl, by have hz0 : (0 : Int32).toInt = 0 := rfl; have hz1 : (1 : Int32).toInt = 1 := rfl; unfold F_seal; (repeat' split) <;> first | rfl | (exfalso; omega)⟩ hP hD hS (fun _ => 0) (fun _ _ => 0) [] (by decide +kernel) rfl dX12_seal_52
def d_X12_alter : List Cond := [Cond.fieldLink RX12 82 "NoRentModel" "thrown" "I", Cond.constantLong RX12 546 (255), Cond.methodLink RX12 90 yX12_in, Cond.static yX12_in, Cond.initialized RX12, Cond.methodLink RX12 141 yX12_isField, Cond.instanceMethod yX12_isField, Cond.selects RX12 yX12_isField yX12_isField, Cond.methodLink RX12 94 yX12_told, Cond.instanceMethod yX12_told, Cond.selects RX12 yX12_told yX12_told]
def v_X12_alter : List Cond := Cond.code yX12_alter cX12_alter 3 (some .int) :: (d_X12_alter ++ (wsX120 ++ (v_X12_in ++ (v_X12_isField_v1 ++ (v_X12_told_v3 ++ (v_X12_told_v2 ++ ([] : List Cond)))))))
theorem cm_X12_alter_0 : ∀ w ∈ wsX120, w ∈ v_X12_alter := fun _ h => List.mem_cons_of_mem _ (List.mem_append_right _ (List.mem_append_left _ h))
theorem cm_X12_alter_1 : ∀ w ∈ v_X12_in, w ∈ v_X12_alter := fun _ h => List.mem_cons_of_mem _ (List.mem_append_right _ (List.mem_append_right _ (List.mem_append_left _ h)))
theorem cm_X12_alter_2 : ∀ w ∈ v_X12_isField_v1, w ∈ v_X12_alter := fun _ h => List.mem_cons_of_mem _ (List.mem_append_right _ (List.mem_append_right _ (List.mem_append_right _ (List.mem_append_left _ h))))
theorem cm_X12_alter_3 : ∀ w ∈ v_X12_told_v3, w ∈ v_X12_alter := fun _ h => List.mem_cons_of_mem _ (List.mem_append_right _ (List.mem_append_right _ (List.mem_append_right _ (List.mem_append_right _ (List.mem_append_left _ h)))))
theorem cm_X12_alter_4 : ∀ w ∈ v_X12_told_v2, w ∈ v_X12_alter := fun _ h => List.mem_cons_of_mem _ (List.mem_append_right _ (List.mem_append_right _ (List.mem_append_right _ (List.mem_append_right _ (List.mem_append_right _ (List.mem_append_left _ h))))))
theorem gd_X12_alter : Gd v_X12_alter := gd_mk (by decide +kernel) (gd_app gd_X12 (gd_app gd_X12_in (gd_app gd_X12_isField_v1 (gd_app gd_X12_told_v3 (gd_app gd_X12_told_v2 gd_nil)))))
set_option maxRecDepth 20000 in
theorem gv_X12_alter_90_X12_in : GoodIn v_X12_alter (va_wsS RX12 90 yX12_in v_X12_in) := goodIn_app (goodIn_of _ (by decide +kernel)) (gi cm_X12_alter_1 gd_X12_in)
set_option maxRecDepth 20000 in
theorem gv_X12_alter_141_X12_isField_v1 : GoodIn v_X12_alter (wsV RX12 141 RX12 yX12_isField v_X12_isField_v1) := goodIn_app (goodIn_of _ (by decide +kernel)) (gi cm_X12_alter_2 gd_X12_isField_v1)
set_option maxRecDepth 20000 in
theorem gv_X12_alter_94_X12_told_v3 : GoodIn v_X12_alter (wsV RX12 94 RX12 yX12_told v_X12_told_v3) := goodIn_app (goodIn_of _ (by decide +kernel)) (gi cm_X12_alter_3 gd_X12_told_v3)
set_option maxRecDepth 20000 in
theorem gv_X12_alter_94_X12_told_v2 : GoodIn v_X12_alter (wsV RX12 94 RX12 yX12_told v_X12_told_v2) := goodIn_app (goodIn_of _ (by decide +kernel)) (gi cm_X12_alter_4 gd_X12_told_v2)
set_option maxHeartbeats 4000000 in
set_option maxRecDepth 100000 in
theorem c_X12_alter (l : Launch) (G : va_G) (cI cJ cZ cD cR cT : ClassId) (h0 : Nat) (u1 : Int32) (u2 : Int32) (h0_2 : Nat) (h0_3 : Nat) (h0_4 : Nat) (h0_5 : Nat) (h0_9 : Nat) (h0_10 : Nat) (h0_11 : Nat) (h0_20 : Nat) (h0_22 : Nat) (h0_23 : Nat) (h0_25 : Nat) (h0_26 : Nat) (h0_29 : Nat) (h0_30 : Nat) (h0_31 : Nat) (h0_32 : Nat) (h0_39 : Nat) (h0_40 : Nat) (h0_42 : Nat) (h0_44 : Nat) (h0_45 : Nat) (sz : Nat) : Met l yX12_alter v_X12_alter ({ frames := 3, cells := 0, slots := 0, locals := 86 }) (va_Pc [.ref h0, .int u1, .int u2] (PreW G (tys6 cI cJ cZ cD cR cT) [(h0, .inr (12, [.int 0, .int 0, .ref h0_2, .ref h0_3, .ref h0_4, .ref h0_5, .int 0, .int 0, .int 0, .ref h0_9, .ref h0_10, .ref h0_11, .int 0, .int 0, .int 0, .int 0, .long 0, .int (-1), .int 0, .int 0, .ref h0_20, .int 0, .ref h0_22, .ref h0_23, .int 0, .ref h0_25, .ref h0_26, .int 0, .int 0, .ref h0_29, .ref h0_30, .ref h0_31, .ref h0_32, .int 0, .long 0, .long 0, .long 0, .long 0, .int 0, .ref h0_39, .ref h0_40, .int 0, .ref h0_42, .int 0, .ref h0_44, .ref h0_45, .int 0, .int 0, .int 0, .int 0, .int 0, .int 0])), (h0_2, .inl (cI, 35942, .inl mrow))] sz)) (QW (RI (fun r => r = F_alter u1 u2)) G (va_A [(h0, .inr (12, [.int 0, .int 0, .ref h0_2, .ref h0_3, .ref h0_4, .ref h0_5, .int 0, .int 0, .int 0, .ref h0_9, .ref h0_10, .ref h0_11, .int 0, .int 0, .int 0, .int 0, .long 0, .int (-1), .int 0, .int 0, .ref h0_20, .int 0, .ref h0_22, .ref h0_23, .int 0, .ref h0_25, .ref h0_26, .int 0, .int 0, .ref h0_29, .ref h0_30, .ref h0_31, .ref h0_32, .int 0, .long 0, .long 0, .long 0, .long 0, .int 0, .ref h0_39, .ref h0_40, .int 0, .ref h0_42, .int 0, .ref h0_44, .ref h0_45, .int 0, .int 0, .int 0, .int 0, .int 0, .int 0])), (h0_2, .inl (cI, 35942, .inl mrow))] sz) (fun q g => [])) 0 0 (va_A [(h0, .inr (12, [.int 0, .int 0, .ref h0_2, .ref h0_3, .ref h0_4, .ref h0_5, .int 0, .int 0, .int 0, .ref h0_9, .ref h0_10, .ref h0_11, .int 0, .int 0, .int 0, .int 0, .long 0, .int (-1), .int 0, .int 0, .ref h0_20, .int 0, .ref h0_22, .ref h0_23, .int 0, .ref h0_25, .ref h0_26, .int 0, .int 0, .ref h0_29, .ref h0_30, .ref h0_31, .ref h0_32, .int 0, .long 0, .long 0, .long 0, .long 0, .int 0, .ref h0_39, .ref h0_40, .int 0, .ref h0_42, .int 0, .ref h0_44, .ref h0_45, .int 0, .int 0, .int 0, .int 0, .int 0, .int 0])), (h0_2, .inl (cI, 35942, .inl mrow))] sz) := by
  refine metW (cc := cX12_alter) (maxL := 3) (ret := (some .int)) (by decide) rfl (Nat.le_of_ble_eq_true rfl) ?_
  intro p e s m below meth c A ls hx hb hr hml hown hts hlocks hin hKK hP hD hA hS hl
  have hK := hKK.1
  have hown : s.vm.findClass RX12 = some m.cls := hown
  have hl : lv_has ls 3 [(0, .ref h0), (1, .int u1), (2, .int u2)] := hl
  have hP : va_P G vwCl [(h0, .inr (12, [.int 0, .int 0, .ref h0_2, .ref h0_3, .ref h0_4, .ref h0_5, .int 0, .int 0, .int 0, .ref h0_9, .ref h0_10, .ref h0_11, .int 0, .int 0, .int 0, .int 0, .long 0, .int (-1), .int 0, .int 0, .ref h0_20, .int 0, .ref h0_22, .ref h0_23, .int 0, .ref h0_25, .ref h0_26, .int 0, .int 0, .ref h0_29, .ref h0_30, .ref h0_31, .ref h0_32, .int 0, .long 0, .long 0, .long 0, .long 0, .int 0, .ref h0_39, .ref h0_40, .int 0, .ref h0_42, .int 0, .ref h0_44, .ref h0_45, .int 0, .int 0, .int 0, .int 0, .int 0, .int 0])), (h0_2, .inl (cI, 35942, .inl mrow))] s.heap := hP
  have hD : va_D A [(h0, .inr (12, [.int 0, .int 0, .ref h0_2, .ref h0_3, .ref h0_4, .ref h0_5, .int 0, .int 0, .int 0, .ref h0_9, .ref h0_10, .ref h0_11, .int 0, .int 0, .int 0, .int 0, .long 0, .int (-1), .int 0, .int 0, .ref h0_20, .int 0, .ref h0_22, .ref h0_23, .int 0, .ref h0_25, .ref h0_26, .int 0, .int 0, .ref h0_29, .ref h0_30, .ref h0_31, .ref h0_32, .int 0, .long 0, .long 0, .long 0, .long 0, .int 0, .ref h0_39, .ref h0_40, .int 0, .ref h0_42, .int 0, .ref h0_44, .ref h0_45, .int 0, .int 0, .int 0, .int 0, .int 0, .int 0])), (h0_2, .inl (cI, 35942, .inl mrow))] := hD
  refine lv_aload_n hx hb dX12_alter_0 rfl (lv_at hl 0 rfl) ?_
  refine lv_iconst (v := 0) hx hb dX12_alter_1 (by decide) ?_
  refine va_put (D := G) (ci := 12) (v := .int 0) (ty := .int) (C := RX12) (T := TX12) (N := 52) hx hb hts cm_X12_alter_0 tyX12 tyX12_ok nmX12 hown hK hP hD hS 0 rfl rfl 0 (by decide) (hts _ (dmem (j := 0) rfl)) (fun _ h9 => h9) rfl (by decide +kernel) rfl rfl (Nat.le_of_ble_eq_true rfl) dX12_alter_2 (fun H locs => setW (ws' := [(h0, .inr (12, [.int 0, .int 0, .ref h0_2, .ref h0_3, .ref h0_4, .ref h0_5, .int 0, .int 0, .int 0, .ref h0_9, .ref h0_10, .ref h0_11, .int 0, .int 0, .int 0, .int 0, .long 0, .int (-1), .int 0, .int 0, .ref h0_20, .int 0, .ref h0_22, .ref h0_23, .int 0, .ref h0_25, .ref h0_26, .int 0, .int 0, .ref h0_29, .ref h0_30, .ref h0_31, .ref h0_32, .int 0, .long 0, .long 0, .long 0, .long 0, .int 0, .ref h0_39, .ref h0_40, .int 0, .ref h0_42, .int 0, .ref h0_44, .ref h0_45, .int 0, .int 0, .int 0, .int 0, .int 0, .int 0])), (h0_2, .inl (cI, 35942, .inl mrow))]) rfl (fun hP hD hS => ?_))
  refine lv_iload_n hx hb dX12_alter_5 rfl (lv_at hl 2 rfl) ?_
  refine lv_i2l hx hb dX12_alter_6 rfl ?_
  refine lv_lconst (v := 1) hx hb dX12_alter_7 (by decide) ?_
  refine lv_ldc2 (v := 255) hx hb hown (hts _ (dmem (j := 1) rfl)) dX12_alter_8 ?_
  refine goS (As := [.long (u2).toInt64, .long 1, .long 255]) (rest := []) (wr := [(h0, .inr (12, [.int 0, .int 0, .ref h0_2, .ref h0_3, .ref h0_4, .ref h0_5, .int 0, .int 0, .int 0, .ref h0_9, .ref h0_10, .ref h0_11, .int 0, .int 0, .int 0, .int 0, .long 0, .int (-1), .int 0, .int 0, .ref h0_20, .int 0, .ref h0_22, .ref h0_23, .int 0, .ref h0_25, .ref h0_26, .int 0, .int 0, .ref h0_29, .ref h0_30, .ref h0_31, .ref h0_32, .int 0, .long 0, .long 0, .long 0, .long 0, .int 0, .ref h0_39, .ref h0_40, .int 0, .ref h0_42, .int 0, .ref h0_44, .ref h0_45, .int 0, .int 0, .int 0, .int 0, .int 0, .int 0])), (h0_2, .inl (cI, 35942, .inl mrow))]) ⟨hx, hb, hml, hown, hts⟩ (c_X12_in l G cI cJ cZ cD cR cT (u2).toInt64 1 255 u2.toInt 1 255 _ (Int32.toInt_toInt64 u2) (by decide) (by decide)) (va_cwS 3 hts gv_X12_alter_90_X12_in rfl rfl rfl (by decide +kernel) ⟨Nat.le_of_ble_eq_true rfl, Nat.le_of_ble_eq_true rfl⟩) hKK hP hD hS hA [] [0, 1] rfl rfl (by decide +kernel) (by decide +kernel) (by decide +kernel) rfl hl.1 rfl (lv_room (Nat.le_of_ble_eq_true rfl)) dX12_alter_11 ⟨Nat.le_of_ble_eq_true rfl, Nat.le_of_ble_eq_true rfl⟩ (fun v2 q1 gq1 H locs hv2 => appW (ws' := [(h0, .inr (12, [.int 0, .int 0, .ref h0_2, .ref h0_3, .ref h0_4, .ref h0_5, .int 0, .int 0, .int 0, .ref h0_9, .ref h0_10, .ref h0_11, .int 0, .int 0, .int 0, .int 0, .long 0, .int (-1), .int 0, .int 0, .ref h0_20, .int 0, .ref h0_22, .ref h0_23, .int 0, .ref h0_25, .ref h0_26, .int 0, .int 0, .ref h0_29, .ref h0_30, .ref h0_31, .ref h0_32, .int 0, .long 0, .long 0, .long 0, .long 0, .int 0, .ref h0_39, .ref h0_40, .int 0, .ref h0_42, .int 0, .ref h0_44, .ref h0_45, .int 0, .int 0, .int 0, .int 0, .int 0, .int 0])), (h0_2, .inl (cI, 35942, .inl mrow))]) rfl (fun hP hD hS => ?_))
  obtain ⟨_, rfl, h4⟩ := hv2
  rcases h4 with ⟨rfl, h4⟩ | ⟨rfl, h4⟩
  · refine lv_if_ne (tgt := 23) hx hb dX12_alter_14 (by decide) (fun _ => ?_) (fun c => absurd c (by decide))
    refine lv_aload_n hx hb dX12_alter_23 rfl (lv_at hl 0 rfl) ?_
    refine lv_iload_n hx hb dX12_alter_24 rfl (lv_at hl 1 rfl) ?_
    refine goV (As := [.int u1]) (rest := []) (wr := []) ⟨hx, hb, hml, hown, hts⟩ (c_X12_isField_v1 l G cI cJ cZ cD cR cT h0 u1 h0_2 h0_3 h0_4 h0_5 h0_9 h0_10 h0_11 h0_20 h0_22 h0_23 h0_25 h0_26 h0_29 h0_30 h0_31 h0_32 h0_39 h0_40 h0_42 h0_44 h0_45 _) (cwV 1 hts gv_X12_alter_141_X12_isField_v1 rfl rfl rfl (by decide +kernel) ⟨Nat.le_of_ble_eq_true rfl, Nat.le_of_ble_eq_true rfl⟩) 0 rfl rfl rfl hKK hP hD hS hA [0, 1] [] rfl rfl (by decide +kernel) (by decide +kernel) (by decide +kernel) rfl hl.1 rfl (lv_room (Nat.le_of_ble_eq_true rfl)) dX12_alter_25 ⟨Nat.le_of_ble_eq_true rfl, Nat.le_of_ble_eq_true rfl⟩ (fun v6 q5 gq5 H locs hv6 => appW (ws' := [(h0, .inr (12, [.int 0, .int 0, .ref h0_2, .ref h0_3, .ref h0_4, .ref h0_5, .int 0, .int 0, .int 0, .ref h0_9, .ref h0_10, .ref h0_11, .int 0, .int 0, .int 0, .int 0, .long 0, .int (-1), .int 0, .int 0, .ref h0_20, .int 0, .ref h0_22, .ref h0_23, .int 0, .ref h0_25, .ref h0_26, .int 0, .int 0, .ref h0_29, .ref h0_30, .ref h0_31, .ref h0_32, .int 0, .long 0, .long 0, .long 0, .long 0, .int 0, .ref h0_39, .ref h0_40, .int 0, .ref h0_42, .int 0, .ref h0_44, .ref h0_45, .int 0, .int 0, .int 0, .int 0, .int 0, .int 0])), (h0_2, .inl (cI, 35942, .inl mrow))]) rfl (fun hP hD hS => ?_))
    obtain ⟨_, rfl, rfl⟩ := hv6
    refine lv_if_ne (tgt := 38) hx hb dX12_alter_28 (by decide) (fun c => absurd c (by decide)) (fun _ => ?_)
    refine lv_aload_n hx hb dX12_alter_31 rfl (lv_at hl 0 rfl) ?_
    refine lv_bipush (v := (-2)) hx hb dX12_alter_32 (by decide) ?_
    refine goV (As := [.int (-2)]) (rest := []) (wr := [(h0_2, .inl (cI, 35942, .inl mrow))]) ⟨hx, hb, hml, hown, hts⟩ (c_X12_told_v3 l G cI cJ cZ cD cR cT h0 h0_2 h0_3 h0_4 h0_5 h0_9 h0_10 h0_11 h0_20 h0_22 h0_23 h0_25 h0_26 h0_29 h0_30 h0_31 h0_32 h0_39 h0_40 h0_42 h0_44 h0_45 _) (cwV 1 hts gv_X12_alter_94_X12_told_v3 rfl rfl rfl (by decide +kernel) ⟨Nat.le_of_ble_eq_true rfl, Nat.le_of_ble_eq_true rfl⟩) 0 rfl rfl rfl hKK hP hD hS hA [0] [1] rfl rfl (by decide +kernel) (by decide +kernel) (by decide +kernel) rfl hl.1 rfl (lv_room (Nat.le_of_ble_eq_true rfl)) dX12_alter_34 ⟨Nat.le_of_ble_eq_true rfl, Nat.le_of_ble_eq_true rfl⟩ (fun v9 q8 gq8 H locs hv9 => appW (ws' := [(h0_2, .inl (cI, 35942, .inl mrow)), (h0, .inr (12, [.int 0, .int (-2), .ref h0_2, .ref h0_3, .ref h0_4, .ref h0_5, .int 0, .int 0, .int 0, .ref h0_9, .ref h0_10, .ref h0_11, .int 0, .int 0, .int 0, .int 0, .long 0, .int (-1), .int 0, .int 0, .ref h0_20, .int 0, .ref h0_22, .ref h0_23, .int 0, .ref h0_25, .ref h0_26, .int 0, .int 0, .ref h0_29, .ref h0_30, .ref h0_31, .ref h0_32, .int 0, .long 0, .long 0, .long 0, .long 0, .int 0, .ref h0_39, .ref h0_40, .int 0, .ref h0_42, .int 0, .ref h0_44, .ref h0_45, .int 0, .int 0, .int 0, .int 0, .int 0, .int 0]))]) rfl (fun hP hD hS => ?_))
    obtain ⟨_, rfl, rfl⟩ := hv9
    exact retI hx hb hr hlocks ⟨_, rfl, by have hz0 : (0 : Int32).toInt = 0 := rfl; have hz1 : (1 : Int32).toInt = 1 := rfl; unfold F_alter; (repeat' split) <;> first | rfl | (exfalso; omega)⟩ hP hD hS (fun _ => 0) (fun _ _ => 0) [] (by decide +kernel) rfl dX12_alter_37
  · refine lv_if_ne (tgt := 23) hx hb dX12_alter_14 (by decide) (fun c => absurd c (by decide)) (fun _ => ?_)
    refine lv_aload_n hx hb dX12_alter_17 rfl (lv_at hl 0 rfl) ?_
    refine lv_iconst (v := (-1)) hx hb dX12_alter_18 (by decide) ?_
    refine goV (As := [.int (-1)]) (rest := []) (wr := [(h0_2, .inl (cI, 35942, .inl mrow))]) ⟨hx, hb, hml, hown, hts⟩ (c_X12_told_v2 l G cI cJ cZ cD cR cT h0 h0_2 h0_3 h0_4 h0_5 h0_9 h0_10 h0_11 h0_20 h0_22 h0_23 h0_25 h0_26 h0_29 h0_30 h0_31 h0_32 h0_39 h0_40 h0_42 h0_44 h0_45 _) (cwV 1 hts gv_X12_alter_94_X12_told_v2 rfl rfl rfl (by decide +kernel) ⟨Nat.le_of_ble_eq_true rfl, Nat.le_of_ble_eq_true rfl⟩) 0 rfl rfl rfl hKK hP hD hS hA [0] [1] rfl rfl (by decide +kernel) (by decide +kernel) (by decide +kernel) rfl hl.1 rfl (lv_room (Nat.le_of_ble_eq_true rfl)) dX12_alter_19 ⟨Nat.le_of_ble_eq_true rfl, Nat.le_of_ble_eq_true rfl⟩ (fun v12 q11 gq11 H locs hv12 => appW (ws' := [(h0_2, .inl (cI, 35942, .inl mrow)), (h0, .inr (12, [.int 0, .int (-1), .ref h0_2, .ref h0_3, .ref h0_4, .ref h0_5, .int 0, .int 0, .int 0, .ref h0_9, .ref h0_10, .ref h0_11, .int 0, .int 0, .int 0, .int 0, .long 0, .int (-1), .int 0, .int 0, .ref h0_20, .int 0, .ref h0_22, .ref h0_23, .int 0, .ref h0_25, .ref h0_26, .int 0, .int 0, .ref h0_29, .ref h0_30, .ref h0_31, .ref h0_32, .int 0, .long 0, .long 0, .long 0, .long 0, .int 0, .ref h0_39, .ref h0_40, .int 0, .ref h0_42, .int 0, .ref h0_44, .ref h0_45, .int 0, .int 0, .int 0, .int 0, .int 0, .int 0]))]) rfl (fun hP hD hS => ?_))
    obtain ⟨_, rfl, rfl⟩ := hv12
    exact retI hx hb hr hlocks ⟨_, rfl, by have hz0 : (0 : Int32).toInt = 0 := rfl; have hz1 : (1 : Int32).toInt = 1 := rfl; unfold F_alter; (repeat' split) <;> first | rfl | (exfalso; omega)⟩ hP hD hS (fun _ => 0) (fun _ _ => 0) [] (by decide +kernel) rfl dX12_alter_22
def d_X12_found : List Cond := [Cond.fieldLink RX12 82 "NoRentModel" "thrown" "I", Cond.fieldLink RX12 8 "NoRentModel" "row" "[I"]
def v_X12_found : List Cond := Cond.code yX12_found cX12_found 4 (some .int) :: (d_X12_found ++ (wsX120 ++ ([] : List Cond)))
theorem cm_X12_found_0 : ∀ w ∈ wsX120, w ∈ v_X12_found := fun _ h => List.mem_cons_of_mem _ (List.mem_append_right _ (List.mem_append_left _ h))
theorem gd_X12_found : Gd v_X12_found := gd_mk (by decide +kernel) (gd_app gd_X12 gd_nil)
set_option maxHeartbeats 4000000 in
set_option maxRecDepth 100000 in
theorem c_X12_found (l : Launch) (G : va_G) (cI cJ cZ cD cR cT : ClassId) (h0 : Nat) (h0_2 : Nat) (h0_3 : Nat) (h0_4 : Nat) (h0_5 : Nat) (h0_9 : Nat) (h0_10 : Nat) (h0_11 : Nat) (h0_20 : Nat) (h0_22 : Nat) (h0_23 : Nat) (h0_25 : Nat) (h0_26 : Nat) (h0_29 : Nat) (h0_30 : Nat) (h0_31 : Nat) (h0_32 : Nat) (h0_39 : Nat) (h0_40 : Nat) (h0_42 : Nat) (h0_44 : Nat) (h0_45 : Nat) (sz : Nat) : Met l yX12_found v_X12_found ({ frames := 1, cells := 0, slots := 0, locals := 40 }) (va_Pc [.ref h0] (PreW G (tys6 cI cJ cZ cD cR cT) [(h0, .inr (12, [.int 0, .int 0, .ref h0_2, .ref h0_3, .ref h0_4, .ref h0_5, .int 0, .int 0, .int 0, .ref h0_9, .ref h0_10, .ref h0_11, .int 0, .int 0, .int 0, .int 0, .long 0, .int (-1), .int 0, .int 0, .ref h0_20, .int 0, .ref h0_22, .ref h0_23, .int 0, .ref h0_25, .ref h0_26, .int 0, .int 0, .ref h0_29, .ref h0_30, .ref h0_31, .ref h0_32, .int 0, .long 0, .long 0, .long 0, .long 0, .int 0, .ref h0_39, .ref h0_40, .int 0, .ref h0_42, .int 0, .ref h0_44, .ref h0_45, .int 0, .int 0, .int 0, .int 0, .int 0, .int 0])), (h0_2, .inl (cI, 35942, .inl mrow))] sz)) (QW (RI (fun r => r = F_found)) G (va_A [(h0, .inr (12, [.int 0, .int 0, .ref h0_2, .ref h0_3, .ref h0_4, .ref h0_5, .int 0, .int 0, .int 0, .ref h0_9, .ref h0_10, .ref h0_11, .int 0, .int 0, .int 0, .int 0, .long 0, .int (-1), .int 0, .int 0, .ref h0_20, .int 0, .ref h0_22, .ref h0_23, .int 0, .ref h0_25, .ref h0_26, .int 0, .int 0, .ref h0_29, .ref h0_30, .ref h0_31, .ref h0_32, .int 0, .long 0, .long 0, .long 0, .long 0, .int 0, .ref h0_39, .ref h0_40, .int 0, .ref h0_42, .int 0, .ref h0_44, .ref h0_45, .int 0, .int 0, .int 0, .int 0, .int 0, .int 0])), (h0_2, .inl (cI, 35942, .inl mrow))] sz) (fun q g => [])) 0 0 (va_A [(h0, .inr (12, [.int 0, .int 0, .ref h0_2, .ref h0_3, .ref h0_4, .ref h0_5, .int 0, .int 0, .int 0, .ref h0_9, .ref h0_10, .ref h0_11, .int 0, .int 0, .int 0, .int 0, .long 0, .int (-1), .int 0, .int 0, .ref h0_20, .int 0, .ref h0_22, .ref h0_23, .int 0, .ref h0_25, .ref h0_26, .int 0, .int 0, .ref h0_29, .ref h0_30, .ref h0_31, .ref h0_32, .int 0, .long 0, .long 0, .long 0, .long 0, .int 0, .ref h0_39, .ref h0_40, .int 0, .ref h0_42, .int 0, .ref h0_44, .ref h0_45, .int 0, .int 0, .int 0, .int 0, .int 0, .int 0])), (h0_2, .inl (cI, 35942, .inl mrow))] sz) := by
  refine metW (cc := cX12_found) (maxL := 4) (ret := (some .int)) (by decide) rfl (Nat.le_of_ble_eq_true rfl) ?_
  intro p e s m below meth c A ls hx hb hr hml hown hts hlocks hin hKK hP hD hA hS hl
  have hK := hKK.1
  have hown : s.vm.findClass RX12 = some m.cls := hown
  have hl : lv_has ls 4 [(0, .ref h0)] := hl
  have hP : va_P G vwCl [(h0, .inr (12, [.int 0, .int 0, .ref h0_2, .ref h0_3, .ref h0_4, .ref h0_5, .int 0, .int 0, .int 0, .ref h0_9, .ref h0_10, .ref h0_11, .int 0, .int 0, .int 0, .int 0, .long 0, .int (-1), .int 0, .int 0, .ref h0_20, .int 0, .ref h0_22, .ref h0_23, .int 0, .ref h0_25, .ref h0_26, .int 0, .int 0, .ref h0_29, .ref h0_30, .ref h0_31, .ref h0_32, .int 0, .long 0, .long 0, .long 0, .long 0, .int 0, .ref h0_39, .ref h0_40, .int 0, .ref h0_42, .int 0, .ref h0_44, .ref h0_45, .int 0, .int 0, .int 0, .int 0, .int 0, .int 0])), (h0_2, .inl (cI, 35942, .inl mrow))] s.heap := hP
  have hD : va_D A [(h0, .inr (12, [.int 0, .int 0, .ref h0_2, .ref h0_3, .ref h0_4, .ref h0_5, .int 0, .int 0, .int 0, .ref h0_9, .ref h0_10, .ref h0_11, .int 0, .int 0, .int 0, .int 0, .long 0, .int (-1), .int 0, .int 0, .ref h0_20, .int 0, .ref h0_22, .ref h0_23, .int 0, .ref h0_25, .ref h0_26, .int 0, .int 0, .ref h0_29, .ref h0_30, .ref h0_31, .ref h0_32, .int 0, .long 0, .long 0, .long 0, .long 0, .int 0, .ref h0_39, .ref h0_40, .int 0, .ref h0_42, .int 0, .ref h0_44, .ref h0_45, .int 0, .int 0, .int 0, .int 0, .int 0, .int 0])), (h0_2, .inl (cI, 35942, .inl mrow))] := hD
  refine lv_aload_n hx hb dX12_found_0 rfl (lv_at hl 0 rfl) ?_
  refine lv_iconst (v := 0) hx hb dX12_found_1 (by decide) ?_
  refine va_put (D := G) (ci := 12) (v := .int 0) (ty := .int) (C := RX12) (T := TX12) (N := 52) hx hb hts cm_X12_found_0 tyX12 tyX12_ok nmX12 hown hK hP hD hS 0 rfl rfl 0 (by decide) (hts _ (dmem (j := 0) rfl)) (fun _ h9 => h9) rfl (by decide +kernel) rfl rfl (Nat.le_of_ble_eq_true rfl) dX12_found_2 (fun H locs => setW (ws' := [(h0, .inr (12, [.int 0, .int 0, .ref h0_2, .ref h0_3, .ref h0_4, .ref h0_5, .int 0, .int 0, .int 0, .ref h0_9, .ref h0_10, .ref h0_11, .int 0, .int 0, .int 0, .int 0, .long 0, .int (-1), .int 0, .int 0, .ref h0_20, .int 0, .ref h0_22, .ref h0_23, .int 0, .ref h0_25, .ref h0_26, .int 0, .int 0, .ref h0_29, .ref h0_30, .ref h0_31, .ref h0_32, .int 0, .long 0, .long 0, .long 0, .long 0, .int 0, .ref h0_39, .ref h0_40, .int 0, .ref h0_42, .int 0, .ref h0_44, .ref h0_45, .int 0, .int 0, .int 0, .int 0, .int 0, .int 0])), (h0_2, .inl (cI, 35942, .inl mrow))]) rfl (fun hP hD hS => ?_))
  refine lv_aload_n hx hb dX12_found_5 rfl (lv_at hl 0 rfl) ?_
  refine va_get (D := G) (ci := 12) (v := .ref h0_2) (C := RX12) (T := TX12) (N := 52) hx hb hts cm_X12_found_0 hown hK hP 0 rfl rfl 2 (by decide) (hts _ (dmem (j := 1) rfl)) (fun _ h9 => h9) rfl dX12_found_6 ?_
  refine lv_bipush (v := 11) hx hb dX12_found_9 (by decide) ?_
  refine va_iald hx hb hK hP 1 0 rfl rfl (vp_in_iff.mpr (by decide)) dX12_found_11 ?_
  refine lv_topi (fun x1 ex1 => ?_)
  obtain rfl : 0 = x1 := (ex1.trans (by first | rfl | decide | (simp [upd, mrow]; done))).symm
  refine lv_if_ne (tgt := 18) hx hb dX12_found_12 (by decide) (fun c => absurd c (by decide)) (fun _ => ?_)
  refine lv_bipush (v := (-3)) hx hb dX12_found_15 (by decide) ?_
  exact retI hx hb hr hlocks ⟨_, rfl, by have hz0 : (0 : Int32).toInt = 0 := rfl; have hz1 : (1 : Int32).toInt = 1 := rfl; unfold F_found; (repeat' split) <;> first | rfl | (exfalso; omega)⟩ hP hD hS (fun _ => 0) (fun _ _ => 0) [] (by decide +kernel) rfl dX12_found_17
def d_X12_back : List Cond := [Cond.fieldLink RX12 82 "NoRentModel" "thrown" "I", Cond.methodLink RX12 90 yX12_in, Cond.static yX12_in, Cond.initialized RX12, Cond.fieldLink RX12 21 "NoRentModel" "isKept" "[Z", Cond.methodLink RX12 94 yX12_told, Cond.instanceMethod yX12_told, Cond.selects RX12 yX12_told yX12_told]
def v_X12_back : List Cond := Cond.code yX12_back cX12_back 3 (some .int) :: (d_X12_back ++ (wsX120 ++ (v_X12_in ++ (v_X12_told_v3 ++ (v_X12_told_v2 ++ ([] : List Cond))))))
theorem cm_X12_back_0 : ∀ w ∈ wsX120, w ∈ v_X12_back := fun _ h => List.mem_cons_of_mem _ (List.mem_append_right _ (List.mem_append_left _ h))
theorem cm_X12_back_1 : ∀ w ∈ v_X12_in, w ∈ v_X12_back := fun _ h => List.mem_cons_of_mem _ (List.mem_append_right _ (List.mem_append_right _ (List.mem_append_left _ h)))
theorem cm_X12_back_2 : ∀ w ∈ v_X12_told_v3, w ∈ v_X12_back := fun _ h => List.mem_cons_of_mem _ (List.mem_append_right _ (List.mem_append_right _ (List.mem_append_right _ (List.mem_append_left _ h))))
theorem cm_X12_back_3 : ∀ w ∈ v_X12_told_v2, w ∈ v_X12_back := fun _ h => List.mem_cons_of_mem _ (List.mem_append_right _ (List.mem_append_right _ (List.mem_append_right _ (List.mem_append_right _ (List.mem_append_left _ h)))))
theorem gd_X12_back : Gd v_X12_back := gd_mk (by decide +kernel) (gd_app gd_X12 (gd_app gd_X12_in (gd_app gd_X12_told_v3 (gd_app gd_X12_told_v2 gd_nil))))
set_option maxRecDepth 20000 in
theorem gv_X12_back_90_X12_in : GoodIn v_X12_back (va_wsS RX12 90 yX12_in v_X12_in) := goodIn_app (goodIn_of _ (by decide +kernel)) (gi cm_X12_back_1 gd_X12_in)
set_option maxRecDepth 20000 in
theorem gv_X12_back_94_X12_told_v3 : GoodIn v_X12_back (wsV RX12 94 RX12 yX12_told v_X12_told_v3) := goodIn_app (goodIn_of _ (by decide +kernel)) (gi cm_X12_back_2 gd_X12_told_v3)
set_option maxRecDepth 20000 in
theorem gv_X12_back_94_X12_told_v2 : GoodIn v_X12_back (wsV RX12 94 RX12 yX12_told v_X12_told_v2) := goodIn_app (goodIn_of _ (by decide +kernel)) (gi cm_X12_back_3 gd_X12_told_v2)
set_option maxHeartbeats 4000000 in
set_option maxRecDepth 100000 in
theorem c_X12_back (l : Launch) (G : va_G) (cI cJ cZ cD cR cT : ClassId) (h0 : Nat) (u1 : Int32) (h0_2 : Nat) (h0_3 : Nat) (h0_4 : Nat) (h0_5 : Nat) (h0_9 : Nat) (h0_10 : Nat) (h0_11 : Nat) (h0_20 : Nat) (h0_22 : Nat) (h0_23 : Nat) (h0_25 : Nat) (h0_26 : Nat) (h0_29 : Nat) (h0_30 : Nat) (h0_31 : Nat) (h0_32 : Nat) (h0_39 : Nat) (h0_40 : Nat) (h0_42 : Nat) (h0_44 : Nat) (h0_45 : Nat) (sz : Nat) : Met l yX12_back v_X12_back ({ frames := 2, cells := 0, slots := 0, locals := 65 }) (va_Pc [.ref h0, .int u1] (PreW G (tys6 cI cJ cZ cD cR cT) [(h0, .inr (12, [.int 0, .int 0, .ref h0_2, .ref h0_3, .ref h0_4, .ref h0_5, .int 0, .int 0, .int 0, .ref h0_9, .ref h0_10, .ref h0_11, .int 0, .int 0, .int 0, .int 0, .long 0, .int (-1), .int 0, .int 0, .ref h0_20, .int 0, .ref h0_22, .ref h0_23, .int 0, .ref h0_25, .ref h0_26, .int 0, .int 0, .ref h0_29, .ref h0_30, .ref h0_31, .ref h0_32, .int 0, .long 0, .long 0, .long 0, .long 0, .int 0, .ref h0_39, .ref h0_40, .int 0, .ref h0_42, .int 0, .ref h0_44, .ref h0_45, .int 0, .int 0, .int 0, .int 0, .int 0, .int 0])), (h0_5, .inl (cZ, 2, .inl (fun _ => 0)))] sz)) (QW (RI (fun r => r = F_back u1)) G (va_A [(h0, .inr (12, [.int 0, .int 0, .ref h0_2, .ref h0_3, .ref h0_4, .ref h0_5, .int 0, .int 0, .int 0, .ref h0_9, .ref h0_10, .ref h0_11, .int 0, .int 0, .int 0, .int 0, .long 0, .int (-1), .int 0, .int 0, .ref h0_20, .int 0, .ref h0_22, .ref h0_23, .int 0, .ref h0_25, .ref h0_26, .int 0, .int 0, .ref h0_29, .ref h0_30, .ref h0_31, .ref h0_32, .int 0, .long 0, .long 0, .long 0, .long 0, .int 0, .ref h0_39, .ref h0_40, .int 0, .ref h0_42, .int 0, .ref h0_44, .ref h0_45, .int 0, .int 0, .int 0, .int 0, .int 0, .int 0])), (h0_5, .inl (cZ, 2, .inl (fun _ => 0)))] sz) (fun q g => [])) 0 0 (va_A [(h0, .inr (12, [.int 0, .int 0, .ref h0_2, .ref h0_3, .ref h0_4, .ref h0_5, .int 0, .int 0, .int 0, .ref h0_9, .ref h0_10, .ref h0_11, .int 0, .int 0, .int 0, .int 0, .long 0, .int (-1), .int 0, .int 0, .ref h0_20, .int 0, .ref h0_22, .ref h0_23, .int 0, .ref h0_25, .ref h0_26, .int 0, .int 0, .ref h0_29, .ref h0_30, .ref h0_31, .ref h0_32, .int 0, .long 0, .long 0, .long 0, .long 0, .int 0, .ref h0_39, .ref h0_40, .int 0, .ref h0_42, .int 0, .ref h0_44, .ref h0_45, .int 0, .int 0, .int 0, .int 0, .int 0, .int 0])), (h0_5, .inl (cZ, 2, .inl (fun _ => 0)))] sz) := by
  refine metW (cc := cX12_back) (maxL := 3) (ret := (some .int)) (by decide) rfl (Nat.le_of_ble_eq_true rfl) ?_
  intro p e s m below meth c A ls hx hb hr hml hown hts hlocks hin hKK hP hD hA hS hl
  have hK := hKK.1
  have hown : s.vm.findClass RX12 = some m.cls := hown
  have hl : lv_has ls 3 [(0, .ref h0), (1, .int u1)] := hl
  have hP : va_P G vwCl [(h0, .inr (12, [.int 0, .int 0, .ref h0_2, .ref h0_3, .ref h0_4, .ref h0_5, .int 0, .int 0, .int 0, .ref h0_9, .ref h0_10, .ref h0_11, .int 0, .int 0, .int 0, .int 0, .long 0, .int (-1), .int 0, .int 0, .ref h0_20, .int 0, .ref h0_22, .ref h0_23, .int 0, .ref h0_25, .ref h0_26, .int 0, .int 0, .ref h0_29, .ref h0_30, .ref h0_31, .ref h0_32, .int 0, .long 0, .long 0, .long 0, .long 0, .int 0, .ref h0_39, .ref h0_40, .int 0, .ref h0_42, .int 0, .ref h0_44, .ref h0_45, .int 0, .int 0, .int 0, .int 0, .int 0, .int 0])), (h0_5, .inl (cZ, 2, .inl (fun _ => 0)))] s.heap := hP
  have hD : va_D A [(h0, .inr (12, [.int 0, .int 0, .ref h0_2, .ref h0_3, .ref h0_4, .ref h0_5, .int 0, .int 0, .int 0, .ref h0_9, .ref h0_10, .ref h0_11, .int 0, .int 0, .int 0, .int 0, .long 0, .int (-1), .int 0, .int 0, .ref h0_20, .int 0, .ref h0_22, .ref h0_23, .int 0, .ref h0_25, .ref h0_26, .int 0, .int 0, .ref h0_29, .ref h0_30, .ref h0_31, .ref h0_32, .int 0, .long 0, .long 0, .long 0, .long 0, .int 0, .ref h0_39, .ref h0_40, .int 0, .ref h0_42, .int 0, .ref h0_44, .ref h0_45, .int 0, .int 0, .int 0, .int 0, .int 0, .int 0])), (h0_5, .inl (cZ, 2, .inl (fun _ => 0)))] := hD
  refine lv_aload_n hx hb dX12_back_0 rfl (lv_at hl 0 rfl) ?_
  refine lv_iconst (v := 0) hx hb dX12_back_1 (by decide) ?_
  refine va_put (D := G) (ci := 12) (v := .int 0) (ty := .int) (C := RX12) (T := TX12) (N := 52) hx hb hts cm_X12_back_0 tyX12 tyX12_ok nmX12 hown hK hP hD hS 0 rfl rfl 0 (by decide) (hts _ (dmem (j := 0) rfl)) (fun _ h9 => h9) rfl (by decide +kernel) rfl rfl (Nat.le_of_ble_eq_true rfl) dX12_back_2 (fun H locs => setW (ws' := [(h0, .inr (12, [.int 0, .int 0, .ref h0_2, .ref h0_3, .ref h0_4, .ref h0_5, .int 0, .int 0, .int 0, .ref h0_9, .ref h0_10, .ref h0_11, .int 0, .int 0, .int 0, .int 0, .long 0, .int (-1), .int 0, .int 0, .ref h0_20, .int 0, .ref h0_22, .ref h0_23, .int 0, .ref h0_25, .ref h0_26, .int 0, .int 0, .ref h0_29, .ref h0_30, .ref h0_31, .ref h0_32, .int 0, .long 0, .long 0, .long 0, .long 0, .int 0, .ref h0_39, .ref h0_40, .int 0, .ref h0_42, .int 0, .ref h0_44, .ref h0_45, .int 0, .int 0, .int 0, .int 0, .int 0, .int 0])), (h0_5, .inl (cZ, 2, .inl (fun _ => 0)))]) rfl (fun hP hD hS => ?_))
  refine lv_iload_n hx hb dX12_back_5 rfl (lv_at hl 1 rfl) ?_
  refine lv_i2l hx hb dX12_back_6 rfl ?_
  refine lv_lconst (v := 0) hx hb dX12_back_7 (by decide) ?_
  refine lv_lconst (v := 1) hx hb dX12_back_8 (by decide) ?_
  refine goS (As := [.long (u1).toInt64, .long 0, .long 1]) (rest := []) (wr := [(h0, .inr (12, [.int 0, .int 0, .ref h0_2, .ref h0_3, .ref h0_4, .ref h0_5, .int 0, .int 0, .int 0, .ref h0_9, .ref h0_10, .ref h0_11, .int 0, .int 0, .int 0, .int 0, .long 0, .int (-1), .int 0, .int 0, .ref h0_20, .int 0, .ref h0_22, .ref h0_23, .int 0, .ref h0_25, .ref h0_26, .int 0, .int 0, .ref h0_29, .ref h0_30, .ref h0_31, .ref h0_32, .int 0, .long 0, .long 0, .long 0, .long 0, .int 0, .ref h0_39, .ref h0_40, .int 0, .ref h0_42, .int 0, .ref h0_44, .ref h0_45, .int 0, .int 0, .int 0, .int 0, .int 0, .int 0])), (h0_5, .inl (cZ, 2, .inl (fun _ => 0)))]) ⟨hx, hb, hml, hown, hts⟩ (c_X12_in l G cI cJ cZ cD cR cT (u1).toInt64 0 1 u1.toInt 0 1 _ (Int32.toInt_toInt64 u1) (by decide) (by decide)) (va_cwS 3 hts gv_X12_back_90_X12_in rfl rfl rfl (by decide +kernel) ⟨Nat.le_of_ble_eq_true rfl, Nat.le_of_ble_eq_true rfl⟩) hKK hP hD hS hA [] [0, 1] rfl rfl (by decide +kernel) (by decide +kernel) (by decide +kernel) rfl hl.1 rfl (lv_room (Nat.le_of_ble_eq_true rfl)) dX12_back_9 ⟨Nat.le_of_ble_eq_true rfl, Nat.le_of_ble_eq_true rfl⟩ (fun v2 q1 gq1 H locs hv2 => appW (ws' := [(h0, .inr (12, [.int 0, .int 0, .ref h0_2, .ref h0_3, .ref h0_4, .ref h0_5, .int 0, .int 0, .int 0, .ref h0_9, .ref h0_10, .ref h0_11, .int 0, .int 0, .int 0, .int 0, .long 0, .int (-1), .int 0, .int 0, .ref h0_20, .int 0, .ref h0_22, .ref h0_23, .int 0, .ref h0_25, .ref h0_26, .int 0, .int 0, .ref h0_29, .ref h0_30, .ref h0_31, .ref h0_32, .int 0, .long 0, .long 0, .long 0, .long 0, .int 0, .ref h0_39, .ref h0_40, .int 0, .ref h0_42, .int 0, .ref h0_44, .ref h0_45, .int 0, .int 0, .int 0, .int 0, .int 0, .int 0])), (h0_5, .inl (cZ, 2, .inl (fun _ => 0)))]) rfl (fun hP hD hS => ?_))
  obtain ⟨_, rfl, h4⟩ := hv2
  rcases h4 with ⟨rfl, h4⟩ | ⟨rfl, h4⟩
  · refine lv_if_ne (tgt := 21) hx hb dX12_back_12 (by decide) (fun _ => ?_) (fun c => absurd c (by decide))
    refine lv_aload_n hx hb dX12_back_21 rfl (lv_at hl 0 rfl) ?_
    refine va_get (D := G) (ci := 12) (v := .ref h0_5) (C := RX12) (T := TX12) (N := 52) hx hb hts cm_X12_back_0 hown hK hP 0 rfl rfl 5 (by decide) (hts _ (dmem (j := 4) rfl)) (fun _ h9 => h9) rfl dX12_back_22 ?_
    refine lv_iload_n hx hb dX12_back_25 rfl (lv_at hl 1 rfl) ?_
    refine va_zald hx hb hK hP 1 2 rfl rfl (vp_in_iff.mpr (by omega)) dX12_back_26 ?_
    refine lv_topi (fun x5 ex5 => ?_)
    obtain rfl : 0 = x5 := (ex5.trans rfl).symm
    refine lv_if_ne (tgt := 37) hx hb dX12_back_27 (by decide) (fun c => absurd c (by decide)) (fun _ => ?_)
    refine lv_aload_n hx hb dX12_back_30 rfl (lv_at hl 0 rfl) ?_
    refine lv_bipush (v := (-2)) hx hb dX12_back_31 (by decide) ?_
    refine goV (As := [.int (-2)]) (rest := []) (wr := [(h0_5, .inl (cZ, 2, .inl (fun _ => 0)))]) ⟨hx, hb, hml, hown, hts⟩ (c_X12_told_v3 l G cI cJ cZ cD cR cT h0 h0_2 h0_3 h0_4 h0_5 h0_9 h0_10 h0_11 h0_20 h0_22 h0_23 h0_25 h0_26 h0_29 h0_30 h0_31 h0_32 h0_39 h0_40 h0_42 h0_44 h0_45 _) (cwV 1 hts gv_X12_back_94_X12_told_v3 rfl rfl rfl (by decide +kernel) ⟨Nat.le_of_ble_eq_true rfl, Nat.le_of_ble_eq_true rfl⟩) 0 rfl rfl rfl hKK hP hD hS hA [0] [1] rfl rfl (by decide +kernel) (by decide +kernel) (by decide +kernel) rfl hl.1 rfl (lv_room (Nat.le_of_ble_eq_true rfl)) dX12_back_33 ⟨Nat.le_of_ble_eq_true rfl, Nat.le_of_ble_eq_true rfl⟩ (fun v7 q6 gq6 H locs hv7 => appW (ws' := [(h0_5, .inl (cZ, 2, .inl (fun _ => 0))), (h0, .inr (12, [.int 0, .int (-2), .ref h0_2, .ref h0_3, .ref h0_4, .ref h0_5, .int 0, .int 0, .int 0, .ref h0_9, .ref h0_10, .ref h0_11, .int 0, .int 0, .int 0, .int 0, .long 0, .int (-1), .int 0, .int 0, .ref h0_20, .int 0, .ref h0_22, .ref h0_23, .int 0, .ref h0_25, .ref h0_26, .int 0, .int 0, .ref h0_29, .ref h0_30, .ref h0_31, .ref h0_32, .int 0, .long 0, .long 0, .long 0, .long 0, .int 0, .ref h0_39, .ref h0_40, .int 0, .ref h0_42, .int 0, .ref h0_44, .ref h0_45, .int 0, .int 0, .int 0, .int 0, .int 0, .int 0]))]) rfl (fun hP hD hS => ?_))
    obtain ⟨_, rfl, rfl⟩ := hv7
    exact retI hx hb hr hlocks ⟨_, rfl, by have hz0 : (0 : Int32).toInt = 0 := rfl; have hz1 : (1 : Int32).toInt = 1 := rfl; unfold F_back; (repeat' split) <;> first | rfl | (exfalso; omega)⟩ hP hD hS (fun _ => 0) (fun _ _ => 0) [] (by decide +kernel) rfl dX12_back_36
  · refine lv_if_ne (tgt := 21) hx hb dX12_back_12 (by decide) (fun c => absurd c (by decide)) (fun _ => ?_)
    refine lv_aload_n hx hb dX12_back_15 rfl (lv_at hl 0 rfl) ?_
    refine lv_iconst (v := (-1)) hx hb dX12_back_16 (by decide) ?_
    refine goV (As := [.int (-1)]) (rest := []) (wr := [(h0_5, .inl (cZ, 2, .inl (fun _ => 0)))]) ⟨hx, hb, hml, hown, hts⟩ (c_X12_told_v2 l G cI cJ cZ cD cR cT h0 h0_2 h0_3 h0_4 h0_5 h0_9 h0_10 h0_11 h0_20 h0_22 h0_23 h0_25 h0_26 h0_29 h0_30 h0_31 h0_32 h0_39 h0_40 h0_42 h0_44 h0_45 _) (cwV 1 hts gv_X12_back_94_X12_told_v2 rfl rfl rfl (by decide +kernel) ⟨Nat.le_of_ble_eq_true rfl, Nat.le_of_ble_eq_true rfl⟩) 0 rfl rfl rfl hKK hP hD hS hA [0] [1] rfl rfl (by decide +kernel) (by decide +kernel) (by decide +kernel) rfl hl.1 rfl (lv_room (Nat.le_of_ble_eq_true rfl)) dX12_back_17 ⟨Nat.le_of_ble_eq_true rfl, Nat.le_of_ble_eq_true rfl⟩ (fun v10 q9 gq9 H locs hv10 => appW (ws' := [(h0_5, .inl (cZ, 2, .inl (fun _ => 0))), (h0, .inr (12, [.int 0, .int (-1), .ref h0_2, .ref h0_3, .ref h0_4, .ref h0_5, .int 0, .int 0, .int 0, .ref h0_9, .ref h0_10, .ref h0_11, .int 0, .int 0, .int 0, .int 0, .long 0, .int (-1), .int 0, .int 0, .ref h0_20, .int 0, .ref h0_22, .ref h0_23, .int 0, .ref h0_25, .ref h0_26, .int 0, .int 0, .ref h0_29, .ref h0_30, .ref h0_31, .ref h0_32, .int 0, .long 0, .long 0, .long 0, .long 0, .int 0, .ref h0_39, .ref h0_40, .int 0, .ref h0_42, .int 0, .ref h0_44, .ref h0_45, .int 0, .int 0, .int 0, .int 0, .int 0, .int 0]))]) rfl (fun hP hD hS => ?_))
    obtain ⟨_, rfl, rfl⟩ := hv10
    exact retI hx hb hr hlocks ⟨_, rfl, by have hz0 : (0 : Int32).toInt = 0 := rfl; have hz1 : (1 : Int32).toInt = 1 := rfl; unfold F_back; (repeat' split) <;> first | rfl | (exfalso; omega)⟩ hP hD hS (fun _ => 0) (fun _ _ => 0) [] (by decide +kernel) rfl dX12_back_20
def d_X12_count : List Cond := [Cond.fieldLink RX12 82 "NoRentModel" "thrown" "I", Cond.fieldLink RX12 8 "NoRentModel" "row" "[I", Cond.fieldLink RX12 446 "NoRentModel" "wishes" "I", Cond.fieldLink RX12 174 "NoRentModel" "taped" "I"]
def v_X12_count : List Cond := Cond.code yX12_count cX12_count 2 (some .int) :: (d_X12_count ++ (wsX120 ++ ([] : List Cond)))
theorem cm_X12_count_0 : ∀ w ∈ wsX120, w ∈ v_X12_count := fun _ h => List.mem_cons_of_mem _ (List.mem_append_right _ (List.mem_append_left _ h))
theorem gd_X12_count : Gd v_X12_count := gd_mk (by decide +kernel) (gd_app gd_X12 gd_nil)
set_option maxHeartbeats 4000000 in
set_option maxRecDepth 100000 in
theorem c_X12_count (l : Launch) (G : va_G) (cI cJ cZ cD cR cT : ClassId) (h0 : Nat) (u1 : Int32) (h0_2 : Nat) (h0_3 : Nat) (h0_4 : Nat) (h0_5 : Nat) (h0_9 : Nat) (h0_10 : Nat) (h0_11 : Nat) (h0_20 : Nat) (h0_22 : Nat) (h0_23 : Nat) (h0_25 : Nat) (h0_26 : Nat) (h0_29 : Nat) (h0_30 : Nat) (h0_31 : Nat) (h0_32 : Nat) (h0_39 : Nat) (h0_40 : Nat) (h0_42 : Nat) (h0_44 : Nat) (h0_45 : Nat) (sz : Nat) : Met l yX12_count v_X12_count ({ frames := 1, cells := 0, slots := 0, locals := 40 }) (va_Pc [.ref h0, .int u1] (PreW G (tys6 cI cJ cZ cD cR cT) [(h0, .inr (12, [.int 0, .int 0, .ref h0_2, .ref h0_3, .ref h0_4, .ref h0_5, .int 0, .int 0, .int 0, .ref h0_9, .ref h0_10, .ref h0_11, .int 0, .int 0, .int 0, .int 0, .long 0, .int (-1), .int 0, .int 0, .ref h0_20, .int 0, .ref h0_22, .ref h0_23, .int 0, .ref h0_25, .ref h0_26, .int 0, .int 0, .ref h0_29, .ref h0_30, .ref h0_31, .ref h0_32, .int 0, .long 0, .long 0, .long 0, .long 0, .int 0, .ref h0_39, .ref h0_40, .int 0, .ref h0_42, .int 0, .ref h0_44, .ref h0_45, .int 0, .int 0, .int 0, .int 0, .int 0, .int 0])), (h0_2, .inl (cI, 35942, .inl mrow))] sz)) (QW (RI (fun r => r = F_count u1)) G (va_A [(h0, .inr (12, [.int 0, .int 0, .ref h0_2, .ref h0_3, .ref h0_4, .ref h0_5, .int 0, .int 0, .int 0, .ref h0_9, .ref h0_10, .ref h0_11, .int 0, .int 0, .int 0, .int 0, .long 0, .int (-1), .int 0, .int 0, .ref h0_20, .int 0, .ref h0_22, .ref h0_23, .int 0, .ref h0_25, .ref h0_26, .int 0, .int 0, .ref h0_29, .ref h0_30, .ref h0_31, .ref h0_32, .int 0, .long 0, .long 0, .long 0, .long 0, .int 0, .ref h0_39, .ref h0_40, .int 0, .ref h0_42, .int 0, .ref h0_44, .ref h0_45, .int 0, .int 0, .int 0, .int 0, .int 0, .int 0])), (h0_2, .inl (cI, 35942, .inl mrow))] sz) (fun q g => [])) 0 0 (va_A [(h0, .inr (12, [.int 0, .int 0, .ref h0_2, .ref h0_3, .ref h0_4, .ref h0_5, .int 0, .int 0, .int 0, .ref h0_9, .ref h0_10, .ref h0_11, .int 0, .int 0, .int 0, .int 0, .long 0, .int (-1), .int 0, .int 0, .ref h0_20, .int 0, .ref h0_22, .ref h0_23, .int 0, .ref h0_25, .ref h0_26, .int 0, .int 0, .ref h0_29, .ref h0_30, .ref h0_31, .ref h0_32, .int 0, .long 0, .long 0, .long 0, .long 0, .int 0, .ref h0_39, .ref h0_40, .int 0, .ref h0_42, .int 0, .ref h0_44, .ref h0_45, .int 0, .int 0, .int 0, .int 0, .int 0, .int 0])), (h0_2, .inl (cI, 35942, .inl mrow))] sz) := by
  refine metW (cc := cX12_count) (maxL := 2) (ret := (some .int)) (by decide) rfl (Nat.le_of_ble_eq_true rfl) ?_
  intro p e s m below meth c A ls hx hb hr hml hown hts hlocks hin hKK hP hD hA hS hl
  have hK := hKK.1
  have hown : s.vm.findClass RX12 = some m.cls := hown
  have hl : lv_has ls 2 [(0, .ref h0), (1, .int u1)] := hl
  have hP : va_P G vwCl [(h0, .inr (12, [.int 0, .int 0, .ref h0_2, .ref h0_3, .ref h0_4, .ref h0_5, .int 0, .int 0, .int 0, .ref h0_9, .ref h0_10, .ref h0_11, .int 0, .int 0, .int 0, .int 0, .long 0, .int (-1), .int 0, .int 0, .ref h0_20, .int 0, .ref h0_22, .ref h0_23, .int 0, .ref h0_25, .ref h0_26, .int 0, .int 0, .ref h0_29, .ref h0_30, .ref h0_31, .ref h0_32, .int 0, .long 0, .long 0, .long 0, .long 0, .int 0, .ref h0_39, .ref h0_40, .int 0, .ref h0_42, .int 0, .ref h0_44, .ref h0_45, .int 0, .int 0, .int 0, .int 0, .int 0, .int 0])), (h0_2, .inl (cI, 35942, .inl mrow))] s.heap := hP
  have hD : va_D A [(h0, .inr (12, [.int 0, .int 0, .ref h0_2, .ref h0_3, .ref h0_4, .ref h0_5, .int 0, .int 0, .int 0, .ref h0_9, .ref h0_10, .ref h0_11, .int 0, .int 0, .int 0, .int 0, .long 0, .int (-1), .int 0, .int 0, .ref h0_20, .int 0, .ref h0_22, .ref h0_23, .int 0, .ref h0_25, .ref h0_26, .int 0, .int 0, .ref h0_29, .ref h0_30, .ref h0_31, .ref h0_32, .int 0, .long 0, .long 0, .long 0, .long 0, .int 0, .ref h0_39, .ref h0_40, .int 0, .ref h0_42, .int 0, .ref h0_44, .ref h0_45, .int 0, .int 0, .int 0, .int 0, .int 0, .int 0])), (h0_2, .inl (cI, 35942, .inl mrow))] := hD
  refine lv_aload_n hx hb dX12_count_0 rfl (lv_at hl 0 rfl) ?_
  refine lv_iconst (v := 0) hx hb dX12_count_1 (by decide) ?_
  refine va_put (D := G) (ci := 12) (v := .int 0) (ty := .int) (C := RX12) (T := TX12) (N := 52) hx hb hts cm_X12_count_0 tyX12 tyX12_ok nmX12 hown hK hP hD hS 0 rfl rfl 0 (by decide) (hts _ (dmem (j := 0) rfl)) (fun _ h9 => h9) rfl (by decide +kernel) rfl rfl (Nat.le_of_ble_eq_true rfl) dX12_count_2 (fun H locs => setW (ws' := [(h0, .inr (12, [.int 0, .int 0, .ref h0_2, .ref h0_3, .ref h0_4, .ref h0_5, .int 0, .int 0, .int 0, .ref h0_9, .ref h0_10, .ref h0_11, .int 0, .int 0, .int 0, .int 0, .long 0, .int (-1), .int 0, .int 0, .ref h0_20, .int 0, .ref h0_22, .ref h0_23, .int 0, .ref h0_25, .ref h0_26, .int 0, .int 0, .ref h0_29, .ref h0_30, .ref h0_31, .ref h0_32, .int 0, .long 0, .long 0, .long 0, .long 0, .int 0, .ref h0_39, .ref h0_40, .int 0, .ref h0_42, .int 0, .ref h0_44, .ref h0_45, .int 0, .int 0, .int 0, .int 0, .int 0, .int 0])), (h0_2, .inl (cI, 35942, .inl mrow))]) rfl (fun hP hD hS => ?_))
  refine lv_iload_n hx hb dX12_count_5 rfl (lv_at hl 1 rfl) ?_
  by_cases c1 : u1 = 0
  · have fc1 : u1.toInt = 0 := by rw [c1]; decide
    refine lv_tableIn (tgt := 60) hx hb dX12_count_6 (by rw [c1]; decide) (by rw [c1]; decide) (by rw [c1]; rfl) (by decide) ?_
    refine lv_aload_n hx hb dX12_count_60 rfl (lv_at hl 0 rfl) ?_
    refine va_get (D := G) (ci := 12) (v := .ref h0_2) (C := RX12) (T := TX12) (N := 52) hx hb hts cm_X12_count_0 hown hK hP 0 rfl rfl 2 (by decide) (hts _ (dmem (j := 1) rfl)) (fun _ h9 => h9) rfl dX12_count_61 ?_
    refine lv_bipush (v := 8) hx hb dX12_count_64 (by decide) ?_
    refine va_iald hx hb hK hP 1 0 rfl rfl (vp_in_iff.mpr (by decide)) dX12_count_66 ?_
    refine lv_topi (fun x2 ex2 => ?_)
    obtain rfl : 0 = x2 := (ex2.trans (by first | rfl | decide | (simp [upd, mrow]; done))).symm
    exact retI hx hb hr hlocks ⟨_, rfl, by have hz0 : (0 : Int32).toInt = 0 := rfl; have hz1 : (1 : Int32).toInt = 1 := rfl; unfold F_count; (repeat' split) <;> first | rfl | (exfalso; omega)⟩ hP hD hS (fun _ => 0) (fun _ _ => 0) [] (by decide +kernel) rfl dX12_count_67
  have fc1 : ¬ (u1.toInt : Int) = 0 := fun h => c1 (Int32.toInt_inj.mp (h.trans (by decide)))
  by_cases c3 : u1 = 1
  · have fc3 : u1.toInt = 1 := by rw [c3]; decide
    refine lv_tableIn (tgt := 68) hx hb dX12_count_6 (by rw [c3]; decide) (by rw [c3]; decide) (by rw [c3]; rfl) (by decide) ?_
    refine lv_aload_n hx hb dX12_count_68 rfl (lv_at hl 0 rfl) ?_
    refine va_get (D := G) (ci := 12) (v := .ref h0_2) (C := RX12) (T := TX12) (N := 52) hx hb hts cm_X12_count_0 hown hK hP 0 rfl rfl 2 (by decide) (hts _ (dmem (j := 1) rfl)) (fun _ h9 => h9) rfl dX12_count_69 ?_
    refine lv_iconst (v := 0) hx hb dX12_count_72 (by decide) ?_
    refine va_iald hx hb hK hP 1 0 rfl rfl (vp_in_iff.mpr (by decide)) dX12_count_73 ?_
    refine lv_topi (fun x4 ex4 => ?_)
    obtain rfl : 0 = x4 := (ex4.trans (by first | rfl | decide | (simp [upd, mrow]; done))).symm
    exact retI hx hb hr hlocks ⟨_, rfl, by have hz0 : (0 : Int32).toInt = 0 := rfl; have hz1 : (1 : Int32).toInt = 1 := rfl; unfold F_count; (repeat' split) <;> first | rfl | (exfalso; omega)⟩ hP hD hS (fun _ => 0) (fun _ _ => 0) [] (by decide +kernel) rfl dX12_count_74
  have fc3 : ¬ (u1.toInt : Int) = 1 := fun h => c3 (Int32.toInt_inj.mp (h.trans (by decide)))
  by_cases c5 : u1 = 2
  · have fc5 : u1.toInt = 2 := by rw [c5]; decide
    refine lv_tableIn (tgt := 75) hx hb dX12_count_6 (by rw [c5]; decide) (by rw [c5]; decide) (by rw [c5]; rfl) (by decide) ?_
    refine lv_aload_n hx hb dX12_count_75 rfl (lv_at hl 0 rfl) ?_
    refine va_get (D := G) (ci := 12) (v := .ref h0_2) (C := RX12) (T := TX12) (N := 52) hx hb hts cm_X12_count_0 hown hK hP 0 rfl rfl 2 (by decide) (hts _ (dmem (j := 1) rfl)) (fun _ h9 => h9) rfl dX12_count_76 ?_
    refine lv_iconst (v := 1) hx hb dX12_count_79 (by decide) ?_
    refine va_iald hx hb hK hP 1 0 rfl rfl (vp_in_iff.mpr (by decide)) dX12_count_80 ?_
    refine lv_topi (fun x6 ex6 => ?_)
    obtain rfl : 0 = x6 := (ex6.trans (by first | rfl | decide | (simp [upd, mrow]; done))).symm
    exact retI hx hb hr hlocks ⟨_, rfl, by have hz0 : (0 : Int32).toInt = 0 := rfl; have hz1 : (1 : Int32).toInt = 1 := rfl; unfold F_count; (repeat' split) <;> first | rfl | (exfalso; omega)⟩ hP hD hS (fun _ => 0) (fun _ _ => 0) [] (by decide +kernel) rfl dX12_count_81
  have fc5 : ¬ (u1.toInt : Int) = 2 := fun h => c5 (Int32.toInt_inj.mp (h.trans (by decide)))
  by_cases c7 : u1 = 3
  · have fc7 : u1.toInt = 3 := by rw [c7]; decide
    refine lv_tableIn (tgt := 82) hx hb dX12_count_6 (by rw [c7]; decide) (by rw [c7]; decide) (by rw [c7]; rfl) (by decide) ?_
    refine lv_aload_n hx hb dX12_count_82 rfl (lv_at hl 0 rfl) ?_
    refine va_get (D := G) (ci := 12) (v := .ref h0_2) (C := RX12) (T := TX12) (N := 52) hx hb hts cm_X12_count_0 hown hK hP 0 rfl rfl 2 (by decide) (hts _ (dmem (j := 1) rfl)) (fun _ h9 => h9) rfl dX12_count_83 ?_
    refine lv_iconst (v := 2) hx hb dX12_count_86 (by decide) ?_
    refine va_iald hx hb hK hP 1 0 rfl rfl (vp_in_iff.mpr (by decide)) dX12_count_87 ?_
    refine lv_topi (fun x8 ex8 => ?_)
    obtain rfl : 0 = x8 := (ex8.trans (by first | rfl | decide | (simp [upd, mrow]; done))).symm
    exact retI hx hb hr hlocks ⟨_, rfl, by have hz0 : (0 : Int32).toInt = 0 := rfl; have hz1 : (1 : Int32).toInt = 1 := rfl; unfold F_count; (repeat' split) <;> first | rfl | (exfalso; omega)⟩ hP hD hS (fun _ => 0) (fun _ _ => 0) [] (by decide +kernel) rfl dX12_count_88
  have fc7 : ¬ (u1.toInt : Int) = 3 := fun h => c7 (Int32.toInt_inj.mp (h.trans (by decide)))
  by_cases c9 : u1 = 4
  · have fc9 : u1.toInt = 4 := by rw [c9]; decide
    refine lv_tableIn (tgt := 89) hx hb dX12_count_6 (by rw [c9]; decide) (by rw [c9]; decide) (by rw [c9]; rfl) (by decide) ?_
    refine lv_aload_n hx hb dX12_count_89 rfl (lv_at hl 0 rfl) ?_
    refine va_get (D := G) (ci := 12) (v := .ref h0_2) (C := RX12) (T := TX12) (N := 52) hx hb hts cm_X12_count_0 hown hK hP 0 rfl rfl 2 (by decide) (hts _ (dmem (j := 1) rfl)) (fun _ h9 => h9) rfl dX12_count_90 ?_
    refine lv_iconst (v := 3) hx hb dX12_count_93 (by decide) ?_
    refine va_iald hx hb hK hP 1 0 rfl rfl (vp_in_iff.mpr (by decide)) dX12_count_94 ?_
    refine lv_topi (fun x10 ex10 => ?_)
    obtain rfl : 0 = x10 := (ex10.trans (by first | rfl | decide | (simp [upd, mrow]; done))).symm
    exact retI hx hb hr hlocks ⟨_, rfl, by have hz0 : (0 : Int32).toInt = 0 := rfl; have hz1 : (1 : Int32).toInt = 1 := rfl; unfold F_count; (repeat' split) <;> first | rfl | (exfalso; omega)⟩ hP hD hS (fun _ => 0) (fun _ _ => 0) [] (by decide +kernel) rfl dX12_count_95
  have fc9 : ¬ (u1.toInt : Int) = 4 := fun h => c9 (Int32.toInt_inj.mp (h.trans (by decide)))
  by_cases c11 : u1 = 5
  · have fc11 : u1.toInt = 5 := by rw [c11]; decide
    refine lv_tableIn (tgt := 96) hx hb dX12_count_6 (by rw [c11]; decide) (by rw [c11]; decide) (by rw [c11]; rfl) (by decide) ?_
    refine lv_aload_n hx hb dX12_count_96 rfl (lv_at hl 0 rfl) ?_
    refine va_get (D := G) (ci := 12) (v := .ref h0_2) (C := RX12) (T := TX12) (N := 52) hx hb hts cm_X12_count_0 hown hK hP 0 rfl rfl 2 (by decide) (hts _ (dmem (j := 1) rfl)) (fun _ h9 => h9) rfl dX12_count_97 ?_
    refine lv_iconst (v := 4) hx hb dX12_count_100 (by decide) ?_
    refine va_iald hx hb hK hP 1 0 rfl rfl (vp_in_iff.mpr (by decide)) dX12_count_101 ?_
    refine lv_topi (fun x12 ex12 => ?_)
    obtain rfl : 0 = x12 := (ex12.trans (by first | rfl | decide | (simp [upd, mrow]; done))).symm
    exact retI hx hb hr hlocks ⟨_, rfl, by have hz0 : (0 : Int32).toInt = 0 := rfl; have hz1 : (1 : Int32).toInt = 1 := rfl; unfold F_count; (repeat' split) <;> first | rfl | (exfalso; omega)⟩ hP hD hS (fun _ => 0) (fun _ _ => 0) [] (by decide +kernel) rfl dX12_count_102
  have fc11 : ¬ (u1.toInt : Int) = 5 := fun h => c11 (Int32.toInt_inj.mp (h.trans (by decide)))
  by_cases c13 : u1 = 6
  · have fc13 : u1.toInt = 6 := by rw [c13]; decide
    refine lv_tableIn (tgt := 103) hx hb dX12_count_6 (by rw [c13]; decide) (by rw [c13]; decide) (by rw [c13]; rfl) (by decide) ?_
    refine lv_aload_n hx hb dX12_count_103 rfl (lv_at hl 0 rfl) ?_
    refine va_get (D := G) (ci := 12) (v := .ref h0_2) (C := RX12) (T := TX12) (N := 52) hx hb hts cm_X12_count_0 hown hK hP 0 rfl rfl 2 (by decide) (hts _ (dmem (j := 1) rfl)) (fun _ h9 => h9) rfl dX12_count_104 ?_
    refine lv_iconst (v := 5) hx hb dX12_count_107 (by decide) ?_
    refine va_iald hx hb hK hP 1 0 rfl rfl (vp_in_iff.mpr (by decide)) dX12_count_108 ?_
    refine lv_topi (fun x14 ex14 => ?_)
    obtain rfl : 0 = x14 := (ex14.trans (by first | rfl | decide | (simp [upd, mrow]; done))).symm
    exact retI hx hb hr hlocks ⟨_, rfl, by have hz0 : (0 : Int32).toInt = 0 := rfl; have hz1 : (1 : Int32).toInt = 1 := rfl; unfold F_count; (repeat' split) <;> first | rfl | (exfalso; omega)⟩ hP hD hS (fun _ => 0) (fun _ _ => 0) [] (by decide +kernel) rfl dX12_count_109
  have fc13 : ¬ (u1.toInt : Int) = 6 := fun h => c13 (Int32.toInt_inj.mp (h.trans (by decide)))
  by_cases c15 : u1 = 7
  · have fc15 : u1.toInt = 7 := by rw [c15]; decide
    refine lv_tableIn (tgt := 110) hx hb dX12_count_6 (by rw [c15]; decide) (by rw [c15]; decide) (by rw [c15]; rfl) (by decide) ?_
    refine lv_aload_n hx hb dX12_count_110 rfl (lv_at hl 0 rfl) ?_
    refine va_get (D := G) (ci := 12) (v := .ref h0_2) (C := RX12) (T := TX12) (N := 52) hx hb hts cm_X12_count_0 hown hK hP 0 rfl rfl 2 (by decide) (hts _ (dmem (j := 1) rfl)) (fun _ h9 => h9) rfl dX12_count_111 ?_
    refine lv_bipush (v := 6) hx hb dX12_count_114 (by decide) ?_
    refine va_iald hx hb hK hP 1 0 rfl rfl (vp_in_iff.mpr (by decide)) dX12_count_116 ?_
    refine lv_topi (fun x16 ex16 => ?_)
    obtain rfl : 0 = x16 := (ex16.trans (by first | rfl | decide | (simp [upd, mrow]; done))).symm
    exact retI hx hb hr hlocks ⟨_, rfl, by have hz0 : (0 : Int32).toInt = 0 := rfl; have hz1 : (1 : Int32).toInt = 1 := rfl; unfold F_count; (repeat' split) <;> first | rfl | (exfalso; omega)⟩ hP hD hS (fun _ => 0) (fun _ _ => 0) [] (by decide +kernel) rfl dX12_count_117
  have fc15 : ¬ (u1.toInt : Int) = 7 := fun h => c15 (Int32.toInt_inj.mp (h.trans (by decide)))
  by_cases c17 : u1 = 8
  · have fc17 : u1.toInt = 8 := by rw [c17]; decide
    refine lv_tableIn (tgt := 118) hx hb dX12_count_6 (by rw [c17]; decide) (by rw [c17]; decide) (by rw [c17]; rfl) (by decide) ?_
    refine lv_aload_n hx hb dX12_count_118 rfl (lv_at hl 0 rfl) ?_
    refine va_get (D := G) (ci := 12) (v := .int 0) (C := RX12) (T := TX12) (N := 52) hx hb hts cm_X12_count_0 hown hK hP 0 rfl rfl 41 (by decide) (hts _ (dmem (j := 2) rfl)) (fun _ h9 => h9) rfl dX12_count_119 ?_
    exact retI hx hb hr hlocks ⟨_, rfl, by have hz0 : (0 : Int32).toInt = 0 := rfl; have hz1 : (1 : Int32).toInt = 1 := rfl; unfold F_count; (repeat' split) <;> first | rfl | (exfalso; omega)⟩ hP hD hS (fun _ => 0) (fun _ _ => 0) [] (by decide +kernel) rfl dX12_count_122
  have fc17 : ¬ (u1.toInt : Int) = 8 := fun h => c17 (Int32.toInt_inj.mp (h.trans (by decide)))
  by_cases c18 : u1 = 9
  · have fc18 : u1.toInt = 9 := by rw [c18]; decide
    refine lv_tableIn (tgt := 123) hx hb dX12_count_6 (by rw [c18]; decide) (by rw [c18]; decide) (by rw [c18]; rfl) (by decide) ?_
    refine lv_aload_n hx hb dX12_count_123 rfl (lv_at hl 0 rfl) ?_
    refine va_get (D := G) (ci := 12) (v := .int 0) (C := RX12) (T := TX12) (N := 52) hx hb hts cm_X12_count_0 hown hK hP 0 rfl rfl 12 (by decide) (hts _ (dmem (j := 3) rfl)) (fun _ h9 => h9) rfl dX12_count_124 ?_
    exact retI hx hb hr hlocks ⟨_, rfl, by have hz0 : (0 : Int32).toInt = 0 := rfl; have hz1 : (1 : Int32).toInt = 1 := rfl; unfold F_count; (repeat' split) <;> first | rfl | (exfalso; omega)⟩ hP hD hS (fun _ => 0) (fun _ _ => 0) [] (by decide +kernel) rfl dX12_count_127
  have fc18 : ¬ (u1.toInt : Int) = 9 := fun h => c18 (Int32.toInt_inj.mp (h.trans (by decide)))
  refine lv_tableOut (tgt := 128) hx hb dX12_count_6 (by omega) (by decide) ?_
  refine lv_iconst (v := (-1)) hx hb dX12_count_128 (by decide) ?_
  exact retI hx hb hr hlocks ⟨_, rfl, by have hz0 : (0 : Int32).toInt = 0 := rfl; have hz1 : (1 : Int32).toInt = 1 := rfl; unfold F_count; (repeat' split) <;> first | rfl | (exfalso; omega)⟩ hP hD hS (fun _ => 0) (fun _ _ => 0) [] (by decide +kernel) rfl dX12_count_129
def d_X12_status : List Cond := [Cond.fieldLink RX12 82 "NoRentModel" "thrown" "I", Cond.fieldLink RX12 85 "NoRentModel" "status" "I"]
def v_X12_status : List Cond := Cond.code yX12_status cX12_status 1 (some .int) :: (d_X12_status ++ (wsX120 ++ ([] : List Cond)))
theorem cm_X12_status_0 : ∀ w ∈ wsX120, w ∈ v_X12_status := fun _ h => List.mem_cons_of_mem _ (List.mem_append_right _ (List.mem_append_left _ h))
theorem gd_X12_status : Gd v_X12_status := gd_mk (by decide +kernel) (gd_app gd_X12 gd_nil)
set_option maxHeartbeats 4000000 in
set_option maxRecDepth 100000 in
theorem c_X12_status (l : Launch) (G : va_G) (cI cJ cZ cD cR cT : ClassId) (h0 : Nat) (h0_2 : Nat) (h0_3 : Nat) (h0_4 : Nat) (h0_5 : Nat) (h0_9 : Nat) (h0_10 : Nat) (h0_11 : Nat) (h0_20 : Nat) (h0_22 : Nat) (h0_23 : Nat) (h0_25 : Nat) (h0_26 : Nat) (h0_29 : Nat) (h0_30 : Nat) (h0_31 : Nat) (h0_32 : Nat) (h0_39 : Nat) (h0_40 : Nat) (h0_42 : Nat) (h0_44 : Nat) (h0_45 : Nat) (sz : Nat) : Met l yX12_status v_X12_status ({ frames := 1, cells := 0, slots := 0, locals := 40 }) (va_Pc [.ref h0] (PreW G (tys6 cI cJ cZ cD cR cT) [(h0, .inr (12, [.int 0, .int 0, .ref h0_2, .ref h0_3, .ref h0_4, .ref h0_5, .int 0, .int 0, .int 0, .ref h0_9, .ref h0_10, .ref h0_11, .int 0, .int 0, .int 0, .int 0, .long 0, .int (-1), .int 0, .int 0, .ref h0_20, .int 0, .ref h0_22, .ref h0_23, .int 0, .ref h0_25, .ref h0_26, .int 0, .int 0, .ref h0_29, .ref h0_30, .ref h0_31, .ref h0_32, .int 0, .long 0, .long 0, .long 0, .long 0, .int 0, .ref h0_39, .ref h0_40, .int 0, .ref h0_42, .int 0, .ref h0_44, .ref h0_45, .int 0, .int 0, .int 0, .int 0, .int 0, .int 0]))] sz)) (QW (RI (fun r => r = F_status)) G (va_A [(h0, .inr (12, [.int 0, .int 0, .ref h0_2, .ref h0_3, .ref h0_4, .ref h0_5, .int 0, .int 0, .int 0, .ref h0_9, .ref h0_10, .ref h0_11, .int 0, .int 0, .int 0, .int 0, .long 0, .int (-1), .int 0, .int 0, .ref h0_20, .int 0, .ref h0_22, .ref h0_23, .int 0, .ref h0_25, .ref h0_26, .int 0, .int 0, .ref h0_29, .ref h0_30, .ref h0_31, .ref h0_32, .int 0, .long 0, .long 0, .long 0, .long 0, .int 0, .ref h0_39, .ref h0_40, .int 0, .ref h0_42, .int 0, .ref h0_44, .ref h0_45, .int 0, .int 0, .int 0, .int 0, .int 0, .int 0]))] sz) (fun q g => [])) 0 0 (va_A [(h0, .inr (12, [.int 0, .int 0, .ref h0_2, .ref h0_3, .ref h0_4, .ref h0_5, .int 0, .int 0, .int 0, .ref h0_9, .ref h0_10, .ref h0_11, .int 0, .int 0, .int 0, .int 0, .long 0, .int (-1), .int 0, .int 0, .ref h0_20, .int 0, .ref h0_22, .ref h0_23, .int 0, .ref h0_25, .ref h0_26, .int 0, .int 0, .ref h0_29, .ref h0_30, .ref h0_31, .ref h0_32, .int 0, .long 0, .long 0, .long 0, .long 0, .int 0, .ref h0_39, .ref h0_40, .int 0, .ref h0_42, .int 0, .ref h0_44, .ref h0_45, .int 0, .int 0, .int 0, .int 0, .int 0, .int 0]))] sz) := by
  refine metW (cc := cX12_status) (maxL := 1) (ret := (some .int)) (by decide) rfl (Nat.le_of_ble_eq_true rfl) ?_
  intro p e s m below meth c A ls hx hb hr hml hown hts hlocks hin hKK hP hD hA hS hl
  have hK := hKK.1
  have hown : s.vm.findClass RX12 = some m.cls := hown
  have hl : lv_has ls 1 [(0, .ref h0)] := hl
  have hP : va_P G vwCl [(h0, .inr (12, [.int 0, .int 0, .ref h0_2, .ref h0_3, .ref h0_4, .ref h0_5, .int 0, .int 0, .int 0, .ref h0_9, .ref h0_10, .ref h0_11, .int 0, .int 0, .int 0, .int 0, .long 0, .int (-1), .int 0, .int 0, .ref h0_20, .int 0, .ref h0_22, .ref h0_23, .int 0, .ref h0_25, .ref h0_26, .int 0, .int 0, .ref h0_29, .ref h0_30, .ref h0_31, .ref h0_32, .int 0, .long 0, .long 0, .long 0, .long 0, .int 0, .ref h0_39, .ref h0_40, .int 0, .ref h0_42, .int 0, .ref h0_44, .ref h0_45, .int 0, .int 0, .int 0, .int 0, .int 0, .int 0]))] s.heap := hP
  have hD : va_D A [(h0, .inr (12, [.int 0, .int 0, .ref h0_2, .ref h0_3, .ref h0_4, .ref h0_5, .int 0, .int 0, .int 0, .ref h0_9, .ref h0_10, .ref h0_11, .int 0, .int 0, .int 0, .int 0, .long 0, .int (-1), .int 0, .int 0, .ref h0_20, .int 0, .ref h0_22, .ref h0_23, .int 0, .ref h0_25, .ref h0_26, .int 0, .int 0, .ref h0_29, .ref h0_30, .ref h0_31, .ref h0_32, .int 0, .long 0, .long 0, .long 0, .long 0, .int 0, .ref h0_39, .ref h0_40, .int 0, .ref h0_42, .int 0, .ref h0_44, .ref h0_45, .int 0, .int 0, .int 0, .int 0, .int 0, .int 0]))] := hD
  refine lv_aload_n hx hb dX12_status_0 rfl (lv_at hl 0 rfl) ?_
  refine lv_iconst (v := 0) hx hb dX12_status_1 (by decide) ?_
  refine va_put (D := G) (ci := 12) (v := .int 0) (ty := .int) (C := RX12) (T := TX12) (N := 52) hx hb hts cm_X12_status_0 tyX12 tyX12_ok nmX12 hown hK hP hD hS 0 rfl rfl 0 (by decide) (hts _ (dmem (j := 0) rfl)) (fun _ h9 => h9) rfl (by decide +kernel) rfl rfl (Nat.le_of_ble_eq_true rfl) dX12_status_2 (fun H locs => setW (ws' := [(h0, .inr (12, [.int 0, .int 0, .ref h0_2, .ref h0_3, .ref h0_4, .ref h0_5, .int 0, .int 0, .int 0, .ref h0_9, .ref h0_10, .ref h0_11, .int 0, .int 0, .int 0, .int 0, .long 0, .int (-1), .int 0, .int 0, .ref h0_20, .int 0, .ref h0_22, .ref h0_23, .int 0, .ref h0_25, .ref h0_26, .int 0, .int 0, .ref h0_29, .ref h0_30, .ref h0_31, .ref h0_32, .int 0, .long 0, .long 0, .long 0, .long 0, .int 0, .ref h0_39, .ref h0_40, .int 0, .ref h0_42, .int 0, .ref h0_44, .ref h0_45, .int 0, .int 0, .int 0, .int 0, .int 0, .int 0]))]) rfl (fun hP hD hS => ?_))
  refine lv_aload_n hx hb dX12_status_5 rfl (lv_at hl 0 rfl) ?_
  refine va_get (D := G) (ci := 12) (v := .int 0) (C := RX12) (T := TX12) (N := 52) hx hb hts cm_X12_status_0 hown hK hP 0 rfl rfl 1 (by decide) (hts _ (dmem (j := 1) rfl)) (fun _ h9 => h9) rfl dX12_status_6 ?_
  exact retI hx hb hr hlocks ⟨_, rfl, by have hz0 : (0 : Int32).toInt = 0 := rfl; have hz1 : (1 : Int32).toInt = 1 := rfl; unfold F_status; (repeat' split) <;> first | rfl | (exfalso; omega)⟩ hP hD hS (fun _ => 0) (fun _ _ => 0) [] (by decide +kernel) rfl dX12_status_9
