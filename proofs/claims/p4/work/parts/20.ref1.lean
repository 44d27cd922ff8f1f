theorem dX12_in_0 : decode cX12_in 0 = .ok (.lload_n 0, 1) := by decide +kernel
theorem dX12_in_1 : decode cX12_in 1 = .ok (.lload_n 2, 1) := by decide +kernel
theorem dX12_in_2 : decode cX12_in 2 = .ok (.lcmp, 1) := by decide +kernel
theorem dX12_in_3 : decode cX12_in 3 = .ok (.ifCond .lt 14, 3) := by decide +kernel
theorem dX12_in_17 : decode cX12_in 17 = .ok (.iconst 0, 1) := by decide +kernel
theorem dX12_in_18 : decode cX12_in 18 = .ok (.ireturn, 1) := by decide +kernel
theorem dX12_in_6 : decode cX12_in 6 = .ok (.lload_n 0, 1) := by decide +kernel
theorem dX12_in_7 : decode cX12_in 7 = .ok (.lload 4, 2) := by decide +kernel
theorem dX12_in_9 : decode cX12_in 9 = .ok (.lcmp, 1) := by decide +kernel
theorem dX12_in_10 : decode cX12_in 10 = .ok (.ifCond .gt 7, 3) := by decide +kernel
theorem dX12_in_13 : decode cX12_in 13 = .ok (.iconst 1, 1) := by decide +kernel
theorem dX12_in_14 : decode cX12_in 14 = .ok (.goto 4, 3) := by decide +kernel
theorem dX12_told_0 : decode cX12_told 0 = .ok (.aload_n 0, 1) := by decide +kernel
theorem dX12_told_1 : decode cX12_told 1 = .ok (.iload_n 1, 1) := by decide +kernel
theorem dX12_told_2 : decode cX12_told 2 = .ok (.ifCond .ge 7, 3) := by decide +kernel
theorem dX12_told_10 : decode cX12_told 10 = .ok (.putfield 85, 3) := by decide +kernel
theorem dX12_told_13 : decode cX12_told 13 = .ok (.iload_n 1, 1) := by decide +kernel
theorem dX12_told_14 : decode cX12_told 14 = .ok (.ireturn, 1) := by decide +kernel
theorem dX12_told_9 : decode cX12_told 9 = .ok (.iconst 0, 1) := by decide +kernel
theorem dX12_told_5 : decode cX12_told 5 = .ok (.iload_n 1, 1) := by decide +kernel
theorem dX12_told_6 : decode cX12_told 6 = .ok (.goto 4, 3) := by decide +kernel
theorem dX12_isWeek_0 : decode cX12_isWeek 0 = .ok (.iload_n 0, 1) := by decide +kernel
theorem dX12_isWeek_1 : decode cX12_isWeek 1 = .ok (.i2l, 1) := by decide +kernel
theorem dX12_isWeek_2 : decode cX12_isWeek 2 = .ok (.lconst 0, 1) := by decide +kernel
theorem dX12_isWeek_3 : decode cX12_isWeek 3 = .ok (.ldc2_w 88, 3) := by decide +kernel
theorem dX12_isWeek_6 : decode cX12_isWeek 6 = .ok (.invokestatic 90, 3) := by decide +kernel
theorem dX12_isWeek_9 : decode cX12_isWeek 9 = .ok (.ireturn, 1) := by decide +kernel
theorem dX12_isPerson_0 : decode cX12_isPerson 0 = .ok (.iload_n 1, 1) := by decide +kernel
theorem dX12_isPerson_1 : decode cX12_isPerson 1 = .ok (.i2l, 1) := by decide +kernel
theorem dX12_isPerson_2 : decode cX12_isPerson 2 = .ok (.lconst 0, 1) := by decide +kernel
theorem dX12_isPerson_3 : decode cX12_isPerson 3 = .ok (.aload_n 0, 1) := by decide +kernel
theorem dX12_isPerson_4 : decode cX12_isPerson 4 = .ok (.getfield 8, 3) := by decide +kernel
theorem dX12_isPerson_7 : decode cX12_isPerson 7 = .ok (.iconst 0, 1) := by decide +kernel
theorem dX12_isPerson_8 : decode cX12_isPerson 8 = .ok (.iaload, 1) := by decide +kernel
theorem dX12_isPerson_9 : decode cX12_isPerson 9 = .ok (.i2l, 1) := by decide +kernel
theorem dX12_isPerson_10 : decode cX12_isPerson 10 = .ok (.lconst 1, 1) := by decide +kernel
theorem dX12_isPerson_11 : decode cX12_isPerson 11 = .ok (.lsub, 1) := by decide +kernel
theorem dX12_isPerson_12 : decode cX12_isPerson 12 = .ok (.invokestatic 90, 3) := by decide +kernel
theorem dX12_isPerson_15 : decode cX12_isPerson 15 = .ok (.ireturn, 1) := by decide +kernel
theorem dX12_isField_0 : decode cX12_isField 0 = .ok (.iload_n 1, 1) := by decide +kernel
theorem dX12_isField_1 : decode cX12_isField 1 = .ok (.i2l, 1) := by decide +kernel
theorem dX12_isField_2 : decode cX12_isField 2 = .ok (.lconst 0, 1) := by decide +kernel
theorem dX12_isField_3 : decode cX12_isField 3 = .ok (.aload_n 0, 1) := by decide +kernel
theorem dX12_isField_4 : decode cX12_isField 4 = .ok (.getfield 8, 3) := by decide +kernel
theorem dX12_isField_7 : decode cX12_isField 7 = .ok (.iconst 2, 1) := by decide +kernel
theorem dX12_isField_8 : decode cX12_isField 8 = .ok (.iaload, 1) := by decide +kernel
theorem dX12_isField_9 : decode cX12_isField 9 = .ok (.i2l, 1) := by decide +kernel
theorem dX12_isField_10 : decode cX12_isField 10 = .ok (.lconst 1, 1) := by decide +kernel
theorem dX12_isField_11 : decode cX12_isField 11 = .ok (.lsub, 1) := by decide +kernel
theorem dX12_isField_12 : decode cX12_isField 12 = .ok (.invokestatic 90, 3) := by decide +kernel
theorem dX12_isField_15 : decode cX12_isField 15 = .ok (.ireturn, 1) := by decide +kernel
theorem dX12_isEstate_0 : decode cX12_isEstate 0 = .ok (.iload_n 1, 1) := by decide +kernel
theorem dX12_isEstate_1 : decode cX12_isEstate 1 = .ok (.i2l, 1) := by decide +kernel
theorem dX12_isEstate_2 : decode cX12_isEstate 2 = .ok (.lconst 0, 1) := by decide +kernel
theorem dX12_isEstate_3 : decode cX12_isEstate 3 = .ok (.aload_n 0, 1) := by decide +kernel
theorem dX12_isEstate_4 : decode cX12_isEstate 4 = .ok (.getfield 8, 3) := by decide +kernel
theorem dX12_isEstate_7 : decode cX12_isEstate 7 = .ok (.iconst 1, 1) := by decide +kernel
theorem dX12_isEstate_8 : decode cX12_isEstate 8 = .ok (.iaload, 1) := by decide +kernel
theorem dX12_isEstate_9 : decode cX12_isEstate 9 = .ok (.i2l, 1) := by decide +kernel
theorem dX12_isEstate_10 : decode cX12_isEstate 10 = .ok (.lconst 1, 1) := by decide +kernel
theorem dX12_isEstate_11 : decode cX12_isEstate 11 = .ok (.lsub, 1) := by decide +kernel
theorem dX12_isEstate_12 : decode cX12_isEstate 12 = .ok (.invokestatic 90, 3) := by decide +kernel
theorem dX12_isEstate_15 : decode cX12_isEstate 15 = .ok (.ireturn, 1) := by decide +kernel
theorem dX12_personAt_0 : decode cX12_personAt 0 = .ok (.bipush 20, 2) := by decide +kernel
theorem dX12_personAt_2 : decode cX12_personAt 2 = .ok (.bipush 8, 2) := by decide +kernel
theorem dX12_personAt_4 : decode cX12_personAt 4 = .ok (.iload_n 0, 1) := by decide +kernel
theorem dX12_personAt_5 : decode cX12_personAt 5 = .ok (.imul, 1) := by decide +kernel
theorem dX12_personAt_6 : decode cX12_personAt 6 = .ok (.iadd, 1) := by decide +kernel
theorem dX12_personAt_7 : decode cX12_personAt 7 = .ok (.ireturn, 1) := by decide +kernel
theorem dX12_fieldAt_0 : decode cX12_fieldAt 0 = .ok (.sipush 364, 3) := by decide +kernel
theorem dX12_fieldAt_3 : decode cX12_fieldAt 3 = .ok (.bipush 8, 2) := by decide +kernel
theorem dX12_fieldAt_5 : decode cX12_fieldAt 5 = .ok (.iload_n 0, 1) := by decide +kernel
theorem dX12_fieldAt_6 : decode cX12_fieldAt 6 = .ok (.imul, 1) := by decide +kernel
theorem dX12_fieldAt_7 : decode cX12_fieldAt 7 = .ok (.iadd, 1) := by decide +kernel
theorem dX12_fieldAt_8 : decode cX12_fieldAt 8 = .ok (.ireturn, 1) := by decide +kernel
theorem dX12_estateAt_0 : decode cX12_estateAt 0 = .ok (.sipush 340, 3) := by decide +kernel
theorem dX12_estateAt_3 : decode cX12_estateAt 3 = .ok (.iconst 3, 1) := by decide +kernel
theorem dX12_estateAt_4 : decode cX12_estateAt 4 = .ok (.iload_n 0, 1) := by decide +kernel
theorem dX12_estateAt_5 : decode cX12_estateAt 5 = .ok (.imul, 1) := by decide +kernel
theorem dX12_estateAt_6 : decode cX12_estateAt 6 = .ok (.iadd, 1) := by decide +kernel
theorem dX12_estateAt_7 : decode cX12_estateAt 7 = .ok (.ireturn, 1) := by decide +kernel
theorem dX12_textAt_0 : decode cX12_textAt 0 = .ok (.sipush 17982, 3) := by decide +kernel
theorem dX12_textAt_3 : decode cX12_textAt 3 = .ok (.sipush 898, 3) := by decide +kernel
theorem dX12_textAt_6 : decode cX12_textAt 6 = .ok (.iload_n 0, 1) := by decide +kernel
theorem dX12_textAt_7 : decode cX12_textAt 7 = .ok (.imul, 1) := by decide +kernel
theorem dX12_textAt_8 : decode cX12_textAt 8 = .ok (.iadd, 1) := by decide +kernel
theorem dX12_textAt_9 : decode cX12_textAt 9 = .ok (.ireturn, 1) := by decide +kernel
theorem dX12_clauseAt_0 : decode cX12_clauseAt 0 = .ok (.iload_n 0, 1) := by decide +kernel
theorem dX12_clauseAt_1 : decode cX12_clauseAt 1 = .ok (.invokestatic 382, 3) := by decide +kernel
theorem dX12_clauseAt_4 : decode cX12_clauseAt 4 = .ok (.iconst 2, 1) := by decide +kernel
theorem dX12_clauseAt_5 : decode cX12_clauseAt 5 = .ok (.iadd, 1) := by decide +kernel
theorem dX12_clauseAt_6 : decode cX12_clauseAt 6 = .ok (.bipush 8, 2) := by decide +kernel
theorem dX12_clauseAt_8 : decode cX12_clauseAt 8 = .ok (.iload_n 1, 1) := by decide +kernel
theorem dX12_clauseAt_9 : decode cX12_clauseAt 9 = .ok (.imul, 1) := by decide +kernel
theorem dX12_clauseAt_10 : decode cX12_clauseAt 10 = .ok (.iadd, 1) := by decide +kernel
theorem dX12_clauseAt_11 : decode cX12_clauseAt 11 = .ok (.ireturn, 1) := by decide +kernel
theorem dX12_addFour_0 : decode cX12_addFour 0 = .ok (.aload_n 0, 1) := by decide +kernel
theorem dX12_addFour_1 : decode cX12_addFour 1 = .ok (.getfield 8, 3) := by decide +kernel
theorem dX12_addFour_4 : decode cX12_addFour 4 = .ok (.iload_n 1, 1) := by decide +kernel
theorem dX12_addFour_5 : decode cX12_addFour 5 = .ok (.iload_n 2, 1) := by decide +kernel
theorem dX12_addFour_6 : decode cX12_addFour 6 = .ok (.iastore, 1) := by decide +kernel
theorem dX12_addFour_7 : decode cX12_addFour 7 = .ok (.aload_n 0, 1) := by decide +kernel
theorem dX12_addFour_8 : decode cX12_addFour 8 = .ok (.getfield 8, 3) := by decide +kernel
theorem dX12_addFour_11 : decode cX12_addFour 11 = .ok (.iload_n 1, 1) := by decide +kernel
theorem dX12_addFour_12 : decode cX12_addFour 12 = .ok (.iconst 1, 1) := by decide +kernel
theorem dX12_addFour_13 : decode cX12_addFour 13 = .ok (.iadd, 1) := by decide +kernel
theorem dX12_addFour_14 : decode cX12_addFour 14 = .ok (.iload_n 3, 1) := by decide +kernel
theorem dX12_addFour_15 : decode cX12_addFour 15 = .ok (.iastore, 1) := by decide +kernel
theorem dX12_addFour_16 : decode cX12_addFour 16 = .ok (.aload_n 0, 1) := by decide +kernel
theorem dX12_addFour_17 : decode cX12_addFour 17 = .ok (.getfield 8, 3) := by decide +kernel
theorem dX12_addFour_20 : decode cX12_addFour 20 = .ok (.iload_n 1, 1) := by decide +kernel
theorem dX12_addFour_21 : decode cX12_addFour 21 = .ok (.iconst 2, 1) := by decide +kernel
theorem dX12_addFour_22 : decode cX12_addFour 22 = .ok (.iadd, 1) := by decide +kernel
theorem dX12_addFour_23 : decode cX12_addFour 23 = .ok (.iload 4, 2) := by decide +kernel
theorem dX12_addFour_25 : decode cX12_addFour 25 = .ok (.iastore, 1) := by decide +kernel
theorem dX12_addFour_26 : decode cX12_addFour 26 = .ok (.aload_n 0, 1) := by decide +kernel
theorem dX12_addFour_27 : decode cX12_addFour 27 = .ok (.getfield 8, 3) := by decide +kernel
theorem dX12_addFour_30 : decode cX12_addFour 30 = .ok (.iload_n 1, 1) := by decide +kernel
theorem dX12_addFour_31 : decode cX12_addFour 31 = .ok (.iconst 3, 1) := by decide +kernel
theorem dX12_addFour_32 : decode cX12_addFour 32 = .ok (.iadd, 1) := by decide +kernel
theorem dX12_addFour_33 : decode cX12_addFour 33 = .ok (.iload 5, 2) := by decide +kernel
theorem dX12_addFour_35 : decode cX12_addFour 35 = .ok (.iastore, 1) := by decide +kernel
theorem dX12_addFour_36 : decode cX12_addFour 36 = .ok (.return_, 1) := by decide +kernel
theorem dX12_person_0 : decode cX12_person 0 = .ok (.aload_n 0, 1) := by decide +kernel
theorem dX12_person_1 : decode cX12_person 1 = .ok (.iconst 0, 1) := by decide +kernel
theorem dX12_person_2 : decode cX12_person 2 = .ok (.putfield 82, 3) := by decide +kernel
theorem dX12_person_5 : decode cX12_person 5 = .ok (.iload_n 1, 1) := by decide +kernel
theorem dX12_person_6 : decode cX12_person 6 = .ok (.i2l, 1) := by decide +kernel
theorem dX12_person_7 : decode cX12_person 7 = .ok (.lconst 0, 1) := by decide +kernel
theorem dX12_person_8 : decode cX12_person 8 = .ok (.ldc2_w 98, 3) := by decide +kernel
theorem dX12_person_11 : decode cX12_person 11 = .ok (.invokestatic 90, 3) := by decide +kernel
theorem dX12_person_14 : decode cX12_person 14 = .ok (.ifCond .eq 27, 3) := by decide +kernel
theorem dX12_person_41 : decode cX12_person 41 = .ok (.aload_n 0, 1) := by decide +kernel
theorem dX12_person_42 : decode cX12_person 42 = .ok (.iconst (-1), 1) := by decide +kernel
theorem dX12_person_43 : decode cX12_person 43 = .ok (.invokevirtual 94, 3) := by decide +kernel
theorem dX12_person_46 : decode cX12_person 46 = .ok (.ireturn, 1) := by decide +kernel
theorem dX12_person_17 : decode cX12_person 17 = .ok (.iload_n 2, 1) := by decide +kernel
theorem dX12_person_18 : decode cX12_person 18 = .ok (.i2l, 1) := by decide +kernel
theorem dX12_person_19 : decode cX12_person 19 = .ok (.lconst 0, 1) := by decide +kernel
theorem dX12_person_20 : decode cX12_person 20 = .ok (.ldc2_w 100, 3) := by decide +kernel
theorem dX12_person_23 : decode cX12_person 23 = .ok (.invokestatic 90, 3) := by decide +kernel
theorem dX12_person_26 : decode cX12_person 26 = .ok (.ifCond .eq 15, 3) := by decide +kernel
theorem dX12_person_29 : decode cX12_person 29 = .ok (.iload_n 3, 1) := by decide +kernel
theorem dX12_person_30 : decode cX12_person 30 = .ok (.i2l, 1) := by decide +kernel
theorem dX12_person_31 : decode cX12_person 31 = .ok (.lconst 0, 1) := by decide +kernel
theorem dX12_person_32 : decode cX12_person 32 = .ok (.ldc2_w 102, 3) := by decide +kernel
theorem dX12_person_35 : decode cX12_person 35 = .ok (.invokestatic 90, 3) := by decide +kernel
theorem dX12_person_38 : decode cX12_person 38 = .ok (.ifCond .ne 9, 3) := by decide +kernel
theorem dX12_person_47 : decode cX12_person 47 = .ok (.aload_n 0, 1) := by decide +kernel
theorem dX12_person_48 : decode cX12_person 48 = .ok (.getfield 8, 3) := by decide +kernel
theorem dX12_person_51 : decode cX12_person 51 = .ok (.iconst 0, 1) := by decide +kernel
theorem dX12_person_52 : decode cX12_person 52 = .ok (.iaload, 1) := by decide +kernel
theorem dX12_person_53 : decode cX12_person 53 = .ok (.bipush 40, 2) := by decide +kernel
theorem dX12_person_55 : decode cX12_person 55 = .ok (.if_icmp .ne 10, 3) := by decide +kernel
theorem dX12_person_65 : decode cX12_person 65 = .ok (.aload_n 0, 1) := by decide +kernel
theorem dX12_person_66 : decode cX12_person 66 = .ok (.getfield 8, 3) := by decide +kernel
theorem dX12_person_69 : decode cX12_person 69 = .ok (.iconst 0, 1) := by decide +kernel
theorem dX12_person_70 : decode cX12_person 70 = .ok (.iaload, 1) := by decide +kernel
theorem dX12_person_71 : decode cX12_person 71 = .ok (.invokestatic 104, 3) := by decide +kernel
theorem dX12_person_74 : decode cX12_person 74 = .ok (.istore 4, 2) := by decide +kernel
theorem dX12_person_76 : decode cX12_person 76 = .ok (.aload_n 0, 1) := by decide +kernel
theorem dX12_person_77 : decode cX12_person 77 = .ok (.iload 4, 2) := by decide +kernel
theorem dX12_person_79 : decode cX12_person 79 = .ok (.iload_n 1, 1) := by decide +kernel
theorem dX12_person_80 : decode cX12_person 80 = .ok (.iload_n 2, 1) := by decide +kernel
theorem dX12_person_81 : decode cX12_person 81 = .ok (.iload_n 3, 1) := by decide +kernel
theorem dX12_person_82 : decode cX12_person 82 = .ok (.iconst (-1), 1) := by decide +kernel
theorem dX12_person_83 : decode cX12_person 83 = .ok (.invokevirtual 107, 3) := by decide +kernel
theorem dX12_person_86 : decode cX12_person 86 = .ok (.aload_n 0, 1) := by decide +kernel
theorem dX12_person_87 : decode cX12_person 87 = .ok (.iload 4, 2) := by decide +kernel
theorem dX12_person_89 : decode cX12_person 89 = .ok (.iconst 4, 1) := by decide +kernel
theorem dX12_person_90 : decode cX12_person 90 = .ok (.iadd, 1) := by decide +kernel
theorem dX12_person_91 : decode cX12_person 91 = .ok (.iconst 0, 1) := by decide +kernel
theorem dX12_person_92 : decode cX12_person 92 = .ok (.iconst 0, 1) := by decide +kernel
theorem dX12_person_93 : decode cX12_person 93 = .ok (.iconst 0, 1) := by decide +kernel
theorem dX12_person_94 : decode cX12_person 94 = .ok (.iconst (-1), 1) := by decide +kernel
theorem dX12_person_95 : decode cX12_person 95 = .ok (.invokevirtual 107, 3) := by decide +kernel
theorem dX12_person_98 : decode cX12_person 98 = .ok (.aload_n 0, 1) := by decide +kernel
theorem dX12_person_99 : decode cX12_person 99 = .ok (.getfield 8, 3) := by decide +kernel
theorem dX12_person_102 : decode cX12_person 102 = .ok (.iconst 0, 1) := by decide +kernel
theorem dX12_person_103 : decode cX12_person 103 = .ok (.dup2, 1) := by decide +kernel
theorem dX12_person_104 : decode cX12_person 104 = .ok (.iaload, 1) := by decide +kernel
theorem dX12_person_105 : decode cX12_person 105 = .ok (.iconst 1, 1) := by decide +kernel
theorem dX12_person_106 : decode cX12_person 106 = .ok (.iadd, 1) := by decide +kernel
theorem dX12_person_107 : decode cX12_person 107 = .ok (.iastore, 1) := by decide +kernel
theorem dX12_person_108 : decode cX12_person 108 = .ok (.aload_n 0, 1) := by decide +kernel
theorem dX12_person_109 : decode cX12_person 109 = .ok (.aload_n 0, 1) := by decide +kernel
theorem dX12_person_110 : decode cX12_person 110 = .ok (.getfield 8, 3) := by decide +kernel
theorem dX12_person_113 : decode cX12_person 113 = .ok (.iconst 0, 1) := by decide +kernel
theorem dX12_person_114 : decode cX12_person 114 = .ok (.iaload, 1) := by decide +kernel
theorem dX12_person_115 : decode cX12_person 115 = .ok (.iconst 1, 1) := by decide +kernel
theorem dX12_person_116 : decode cX12_person 116 = .ok (.isub, 1) := by decide +kernel
theorem dX12_person_117 : decode cX12_person 117 = .ok (.invokevirtual 94, 3) := by decide +kernel
theorem dX12_person_120 : decode cX12_person 120 = .ok (.ireturn, 1) := by decide +kernel
theorem dX12_person_58 : decode cX12_person 58 = .ok (.aload_n 0, 1) := by decide +kernel
theorem dX12_person_59 : decode cX12_person 59 = .ok (.bipush (-5), 2) := by decide +kernel
theorem dX12_person_61 : decode cX12_person 61 = .ok (.invokevirtual 94, 3) := by decide +kernel
theorem dX12_person_64 : decode cX12_person 64 = .ok (.ireturn, 1) := by decide +kernel
theorem dX12_heed_0 : decode cX12_heed 0 = .ok (.aload_n 0, 1) := by decide +kernel
theorem dX12_heed_1 : decode cX12_heed 1 = .ok (.iconst 0, 1) := by decide +kernel
theorem dX12_heed_2 : decode cX12_heed 2 = .ok (.putfield 82, 3) := by decide +kernel
theorem dX12_heed_5 : decode cX12_heed 5 = .ok (.aload_n 0, 1) := by decide +kernel
theorem dX12_heed_6 : decode cX12_heed 6 = .ok (.iload_n 1, 1) := by decide +kernel
theorem dX12_heed_7 : decode cX12_heed 7 = .ok (.invokevirtual 111, 3) := by decide +kernel
theorem dX12_heed_10 : decode cX12_heed 10 = .ok (.ifCond .eq 16, 3) := by decide +kernel
theorem dX12_heed_26 : decode cX12_heed 26 = .ok (.aload_n 0, 1) := by decide +kernel
theorem dX12_heed_27 : decode cX12_heed 27 = .ok (.bipush (-2), 2) := by decide +kernel
theorem dX12_heed_29 : decode cX12_heed 29 = .ok (.invokevirtual 94, 3) := by decide +kernel
theorem dX12_heed_32 : decode cX12_heed 32 = .ok (.ireturn, 1) := by decide +kernel
theorem dX12_heed_13 : decode cX12_heed 13 = .ok (.iload_n 2, 1) := by decide +kernel
theorem dX12_heed_14 : decode cX12_heed 14 = .ok (.iconst (-1), 1) := by decide +kernel
theorem dX12_heed_15 : decode cX12_heed 15 = .ok (.if_icmp .eq 18, 3) := by decide +kernel
theorem dX12_heed_33 : decode cX12_heed 33 = .ok (.iload_n 1, 1) := by decide +kernel
theorem dX12_heed_34 : decode cX12_heed 34 = .ok (.iload_n 2, 1) := by decide +kernel
theorem dX12_heed_35 : decode cX12_heed 35 = .ok (.if_icmp .ne 10, 3) := by decide +kernel
theorem dX12_heed_45 : decode cX12_heed 45 = .ok (.aload_n 0, 1) := by decide +kernel
theorem dX12_heed_46 : decode cX12_heed 46 = .ok (.getfield 8, 3) := by decide +kernel
theorem dX12_heed_49 : decode cX12_heed 49 = .ok (.iload_n 1, 1) := by decide +kernel
theorem dX12_heed_50 : decode cX12_heed 50 = .ok (.invokestatic 104, 3) := by decide +kernel
theorem dX12_heed_53 : decode cX12_heed 53 = .ok (.iconst 3, 1) := by decide +kernel
theorem dX12_heed_54 : decode cX12_heed 54 = .ok (.iadd, 1) := by decide +kernel
theorem dX12_heed_55 : decode cX12_heed 55 = .ok (.iload_n 2, 1) := by decide +kernel
theorem dX12_heed_56 : decode cX12_heed 56 = .ok (.iastore, 1) := by decide +kernel
theorem dX12_heed_57 : decode cX12_heed 57 = .ok (.aload_n 0, 1) := by decide +kernel
theorem dX12_heed_58 : decode cX12_heed 58 = .ok (.iconst 0, 1) := by decide +kernel
theorem dX12_heed_59 : decode cX12_heed 59 = .ok (.invokevirtual 94, 3) := by decide +kernel
theorem dX12_heed_62 : decode cX12_heed 62 = .ok (.ireturn, 1) := by decide +kernel
theorem dX12_heed_18 : decode cX12_heed 18 = .ok (.aload_n 0, 1) := by decide +kernel
theorem dX12_heed_19 : decode cX12_heed 19 = .ok (.iload_n 2, 1) := by decide +kernel
theorem dX12_heed_20 : decode cX12_heed 20 = .ok (.invokevirtual 111, 3) := by decide +kernel
theorem dX12_heed_23 : decode cX12_heed 23 = .ok (.ifCond .ne 10, 3) := by decide +kernel
theorem dX12_heed_38 : decode cX12_heed 38 = .ok (.aload_n 0, 1) := by decide +kernel
theorem dX12_heed_39 : decode cX12_heed 39 = .ok (.bipush (-3), 2) := by decide +kernel
theorem dX12_heed_41 : decode cX12_heed 41 = .ok (.invokevirtual 94, 3) := by decide +kernel
theorem dX12_heed_44 : decode cX12_heed 44 = .ok (.ireturn, 1) := by decide +kernel
theorem dX12_goes_0 : decode cX12_goes 0 = .ok (.aload_n 0, 1) := by decide +kernel
theorem dX12_goes_1 : decode cX12_goes 1 = .ok (.iconst 0, 1) := by decide +kernel
theorem dX12_goes_2 : decode cX12_goes 2 = .ok (.putfield 82, 3) := by decide +kernel
theorem dX12_goes_5 : decode cX12_goes 5 = .ok (.iload_n 2, 1) := by decide +kernel
theorem dX12_goes_6 : decode cX12_goes 6 = .ok (.i2l, 1) := by decide +kernel
theorem dX12_goes_7 : decode cX12_goes 7 = .ok (.lconst 0, 1) := by decide +kernel
theorem dX12_goes_8 : decode cX12_goes 8 = .ok (.ldc2_w 115, 3) := by decide +kernel
theorem dX12_goes_11 : decode cX12_goes 11 = .ok (.invokestatic 90, 3) := by decide +kernel
theorem dX12_goes_14 : decode cX12_goes 14 = .ok (.ifCond .ne 9, 3) := by decide +kernel
theorem dX12_goes_23 : decode cX12_goes 23 = .ok (.aload_n 0, 1) := by decide +kernel
theorem dX12_goes_24 : decode cX12_goes 24 = .ok (.iload_n 1, 1) := by decide +kernel
theorem dX12_goes_25 : decode cX12_goes 25 = .ok (.invokevirtual 111, 3) := by decide +kernel
theorem dX12_goes_28 : decode cX12_goes 28 = .ok (.ifCond .ne 10, 3) := by decide +kernel
theorem dX12_goes_38 : decode cX12_goes 38 = .ok (.aload_n 0, 1) := by decide +kernel
theorem dX12_goes_39 : decode cX12_goes 39 = .ok (.getfield 8, 3) := by decide +kernel
theorem dX12_goes_42 : decode cX12_goes 42 = .ok (.iload_n 1, 1) := by decide +kernel
theorem dX12_goes_43 : decode cX12_goes 43 = .ok (.invokestatic 104, 3) := by decide +kernel
theorem dX12_goes_46 : decode cX12_goes 46 = .ok (.iconst 5, 1) := by decide +kernel
theorem dX12_goes_47 : decode cX12_goes 47 = .ok (.iadd, 1) := by decide +kernel
theorem dX12_goes_48 : decode cX12_goes 48 = .ok (.iaload, 1) := by decide +kernel
theorem dX12_goes_49 : decode cX12_goes 49 = .ok (.iconst 4, 1) := by decide +kernel
theorem dX12_goes_50 : decode cX12_goes 50 = .ok (.if_icmp .ne 10, 3) := by decide +kernel
theorem dX12_goes_60 : decode cX12_goes 60 = .ok (.aload_n 0, 1) := by decide +kernel
theorem dX12_goes_61 : decode cX12_goes 61 = .ok (.getfield 8, 3) := by decide +kernel
theorem dX12_goes_64 : decode cX12_goes 64 = .ok (.iload_n 1, 1) := by decide +kernel
theorem dX12_goes_65 : decode cX12_goes 65 = .ok (.invokestatic 104, 3) := by decide +kernel
theorem dX12_goes_68 : decode cX12_goes 68 = .ok (.iconst 5, 1) := by decide +kernel
theorem dX12_goes_69 : decode cX12_goes 69 = .ok (.iadd, 1) := by decide +kernel
theorem dX12_goes_70 : decode cX12_goes 70 = .ok (.iload_n 2, 1) := by decide +kernel
theorem dX12_goes_71 : decode cX12_goes 71 = .ok (.iastore, 1) := by decide +kernel
theorem dX12_goes_72 : decode cX12_goes 72 = .ok (.aload_n 0, 1) := by decide +kernel
theorem dX12_goes_73 : decode cX12_goes 73 = .ok (.iconst 0, 1) := by decide +kernel
theorem dX12_goes_74 : decode cX12_goes 74 = .ok (.invokevirtual 94, 3) := by decide +kernel
theorem dX12_goes_77 : decode cX12_goes 77 = .ok (.ireturn, 1) := by decide +kernel
theorem dX12_goes_53 : decode cX12_goes 53 = .ok (.aload_n 0, 1) := by decide +kernel
theorem dX12_goes_54 : decode cX12_goes 54 = .ok (.bipush (-3), 2) := by decide +kernel
theorem dX12_goes_56 : decode cX12_goes 56 = .ok (.invokevirtual 94, 3) := by decide +kernel
theorem dX12_goes_59 : decode cX12_goes 59 = .ok (.ireturn, 1) := by decide +kernel
theorem dX12_goes_31 : decode cX12_goes 31 = .ok (.aload_n 0, 1) := by decide +kernel
theorem dX12_goes_32 : decode cX12_goes 32 = .ok (.bipush (-2), 2) := by decide +kernel
theorem dX12_goes_34 : decode cX12_goes 34 = .ok (.invokevirtual 94, 3) := by decide +kernel
theorem dX12_goes_37 : decode cX12_goes 37 = .ok (.ireturn, 1) := by decide +kernel
theorem dX12_goes_17 : decode cX12_goes 17 = .ok (.aload_n 0, 1) := by decide +kernel
theorem dX12_goes_18 : decode cX12_goes 18 = .ok (.iconst (-1), 1) := by decide +kernel
theorem dX12_goes_19 : decode cX12_goes 19 = .ok (.invokevirtual 94, 3) := by decide +kernel
theorem dX12_goes_22 : decode cX12_goes 22 = .ok (.ireturn, 1) := by decide +kernel
theorem dX12_coin_0 : decode cX12_coin 0 = .ok (.aload_n 0, 1) := by decide +kernel
theorem dX12_coin_1 : decode cX12_coin 1 = .ok (.iconst 0, 1) := by decide +kernel
theorem dX12_coin_2 : decode cX12_coin 2 = .ok (.putfield 82, 3) := by decide +kernel
theorem dX12_coin_5 : decode cX12_coin 5 = .ok (.iload_n 2, 1) := by decide +kernel
theorem dX12_coin_6 : decode cX12_coin 6 = .ok (.i2l, 1) := by decide +kernel
theorem dX12_coin_7 : decode cX12_coin 7 = .ok (.lconst 0, 1) := by decide +kernel
theorem dX12_coin_8 : decode cX12_coin 8 = .ok (.ldc2_w 100, 3) := by decide +kernel
theorem dX12_coin_11 : decode cX12_coin 11 = .ok (.invokestatic 90, 3) := by decide +kernel
theorem dX12_coin_14 : decode cX12_coin 14 = .ok (.ifCond .ne 9, 3) := by decide +kernel
theorem dX12_coin_23 : decode cX12_coin 23 = .ok (.aload_n 0, 1) := by decide +kernel
theorem dX12_coin_24 : decode cX12_coin 24 = .ok (.iload_n 1, 1) := by decide +kernel
theorem dX12_coin_25 : decode cX12_coin 25 = .ok (.invokevirtual 111, 3) := by decide +kernel
theorem dX12_coin_28 : decode cX12_coin 28 = .ok (.ifCond .ne 10, 3) := by decide +kernel
theorem dX12_coin_38 : decode cX12_coin 38 = .ok (.aload_n 0, 1) := by decide +kernel
theorem dX12_coin_39 : decode cX12_coin 39 = .ok (.iload_n 1, 1) := by decide +kernel
theorem dX12_coin_40 : decode cX12_coin 40 = .ok (.iload_n 2, 1) := by decide +kernel
theorem dX12_coin_41 : decode cX12_coin 41 = .ok (.i2l, 1) := by decide +kernel
theorem dX12_coin_42 : decode cX12_coin 42 = .ok (.invokevirtual 117, 3) := by decide +kernel
theorem dX12_gets_0 : decode cX12_gets 0 = .ok (.iload_n 1, 1) := by decide +kernel
theorem dX12_gets_1 : decode cX12_gets 1 = .ok (.invokestatic 104, 3) := by decide +kernel
theorem dX12_gets_4 : decode cX12_gets 4 = .ok (.iconst 1, 1) := by decide +kernel
theorem dX12_gets_5 : decode cX12_gets 5 = .ok (.iadd, 1) := by decide +kernel
theorem dX12_gets_6 : decode cX12_gets 6 = .ok (.istore 4, 2) := by decide +kernel
theorem dX12_gets_8 : decode cX12_gets 8 = .ok (.aload_n 0, 1) := by decide +kernel
theorem dX12_gets_9 : decode cX12_gets 9 = .ok (.getfield 8, 3) := by decide +kernel
theorem dX12_gets_12 : decode cX12_gets 12 = .ok (.iload 4, 2) := by decide +kernel
theorem dX12_gets_14 : decode cX12_gets 14 = .ok (.iaload, 1) := by decide +kernel
theorem dX12_gets_15 : decode cX12_gets 15 = .ok (.ldc 121, 2) := by decide +kernel
theorem dX12_gets_17 : decode cX12_gets 17 = .ok (.if_icmp .ge 42, 3) := by decide +kernel
theorem dX12_gets_59 : decode cX12_gets 59 = .ok (.return_, 1) := by decide +kernel
theorem dX12_gets_20 : decode cX12_gets 20 = .ok (.aload_n 0, 1) := by decide +kernel
theorem dX12_gets_21 : decode cX12_gets 21 = .ok (.getfield 8, 3) := by decide +kernel
theorem dX12_gets_24 : decode cX12_gets 24 = .ok (.iload 4, 2) := by decide +kernel
theorem dX12_gets_26 : decode cX12_gets 26 = .ok (.aload_n 0, 1) := by decide +kernel
theorem dX12_gets_27 : decode cX12_gets 27 = .ok (.getfield 8, 3) := by decide +kernel
theorem dX12_gets_30 : decode cX12_gets 30 = .ok (.iload 4, 2) := by decide +kernel
theorem dX12_gets_32 : decode cX12_gets 32 = .ok (.iaload, 1) := by decide +kernel
theorem dX12_gets_33 : decode cX12_gets 33 = .ok (.i2l, 1) := by decide +kernel
theorem dX12_gets_34 : decode cX12_gets 34 = .ok (.lload_n 2, 1) := by decide +kernel
theorem dX12_gets_35 : decode cX12_gets 35 = .ok (.ladd, 1) := by decide +kernel
theorem dX12_gets_36 : decode cX12_gets 36 = .ok (.ldc2_w 122, 3) := by decide +kernel
theorem dX12_gets_39 : decode cX12_gets 39 = .ok (.lcmp, 1) := by decide +kernel
theorem dX12_gets_40 : decode cX12_gets 40 = .ok (.ifCond .le 8, 3) := by decide +kernel
theorem dX12_gets_58 : decode cX12_gets 58 = .ok (.iastore, 1) := by decide +kernel
theorem dX12_gets_48 : decode cX12_gets 48 = .ok (.aload_n 0, 1) := by decide +kernel
theorem dX12_gets_49 : decode cX12_gets 49 = .ok (.getfield 8, 3) := by decide +kernel
theorem dX12_gets_52 : decode cX12_gets 52 = .ok (.iload 4, 2) := by decide +kernel
theorem dX12_gets_54 : decode cX12_gets 54 = .ok (.iaload, 1) := by decide +kernel
theorem dX12_gets_55 : decode cX12_gets 55 = .ok (.lload_n 2, 1) := by decide +kernel
theorem dX12_gets_56 : decode cX12_gets 56 = .ok (.l2i, 1) := by decide +kernel
theorem dX12_gets_57 : decode cX12_gets 57 = .ok (.iadd, 1) := by decide +kernel
theorem dX12_gets_43 : decode cX12_gets 43 = .ok (.ldc 121, 2) := by decide +kernel
theorem dX12_gets_45 : decode cX12_gets 45 = .ok (.goto 13, 3) := by decide +kernel
theorem dX12_coin_45 : decode cX12_coin 45 = .ok (.aload_n 0, 1) := by decide +kernel
theorem dX12_coin_46 : decode cX12_coin 46 = .ok (.aload_n 0, 1) := by decide +kernel
theorem dX12_coin_47 : decode cX12_coin 47 = .ok (.getfield 8, 3) := by decide +kernel
theorem dX12_coin_50 : decode cX12_coin 50 = .ok (.iload_n 1, 1) := by decide +kernel
theorem dX12_coin_51 : decode cX12_coin 51 = .ok (.invokestatic 104, 3) := by decide +kernel
theorem dX12_coin_54 : decode cX12_coin 54 = .ok (.iconst 1, 1) := by decide +kernel
theorem dX12_coin_55 : decode cX12_coin 55 = .ok (.iadd, 1) := by decide +kernel
theorem dX12_coin_56 : decode cX12_coin 56 = .ok (.iaload, 1) := by decide +kernel
theorem dX12_coin_57 : decode cX12_coin 57 = .ok (.invokevirtual 94, 3) := by decide +kernel
theorem dX12_coin_60 : decode cX12_coin 60 = .ok (.ireturn, 1) := by decide +kernel
theorem dX12_coin_31 : decode cX12_coin 31 = .ok (.aload_n 0, 1) := by decide +kernel
theorem dX12_coin_32 : decode cX12_coin 32 = .ok (.bipush (-2), 2) := by decide +kernel
theorem dX12_coin_34 : decode cX12_coin 34 = .ok (.invokevirtual 94, 3) := by decide +kernel
theorem dX12_coin_37 : decode cX12_coin 37 = .ok (.ireturn, 1) := by decide +kernel
theorem dX12_coin_17 : decode cX12_coin 17 = .ok (.aload_n 0, 1) := by decide +kernel
theorem dX12_coin_18 : decode cX12_coin 18 = .ok (.iconst (-1), 1) := by decide +kernel
theorem dX12_coin_19 : decode cX12_coin 19 = .ok (.invokevirtual 94, 3) := by decide +kernel
theorem dX12_coin_22 : decode cX12_coin 22 = .ok (.ireturn, 1) := by decide +kernel
theorem dX12_give_0 : decode cX12_give 0 = .ok (.aload_n 0, 1) := by decide +kernel
theorem dX12_give_1 : decode cX12_give 1 = .ok (.iconst 0, 1) := by decide +kernel
theorem dX12_give_2 : decode cX12_give 2 = .ok (.putfield 82, 3) := by decide +kernel
theorem dX12_give_5 : decode cX12_give 5 = .ok (.iload_n 1, 1) := by decide +kernel
theorem dX12_give_6 : decode cX12_give 6 = .ok (.i2l, 1) := by decide +kernel
theorem dX12_give_7 : decode cX12_give 7 = .ok (.lconst 0, 1) := by decide +kernel
theorem dX12_give_8 : decode cX12_give 8 = .ok (.ldc2_w 122, 3) := by decide +kernel
theorem dX12_give_11 : decode cX12_give 11 = .ok (.invokestatic 90, 3) := by decide +kernel
theorem dX12_give_14 : decode cX12_give 14 = .ok (.ifCond .ne 9, 3) := by decide +kernel
theorem dX12_give_23 : decode cX12_give 23 = .ok (.aload_n 0, 1) := by decide +kernel
theorem dX12_give_24 : decode cX12_give 24 = .ok (.getfield 8, 3) := by decide +kernel
theorem dX12_give_27 : decode cX12_give 27 = .ok (.bipush 9, 2) := by decide +kernel
theorem dX12_give_29 : decode cX12_give 29 = .ok (.aload_n 0, 1) := by decide +kernel
theorem dX12_give_30 : decode cX12_give 30 = .ok (.getfield 8, 3) := by decide +kernel
theorem dX12_give_33 : decode cX12_give 33 = .ok (.bipush 9, 2) := by decide +kernel
theorem dX12_give_35 : decode cX12_give 35 = .ok (.iaload, 1) := by decide +kernel
theorem dX12_give_36 : decode cX12_give 36 = .ok (.iload_n 1, 1) := by decide +kernel
theorem dX12_give_37 : decode cX12_give 37 = .ok (.iadd, 1) := by decide +kernel
theorem dX12_give_38 : decode cX12_give 38 = .ok (.ldc 124, 2) := by decide +kernel
theorem dX12_give_40 : decode cX12_give 40 = .ok (.if_icmp .le 8, 3) := by decide +kernel
theorem dX12_give_57 : decode cX12_give 57 = .ok (.iastore, 1) := by decide +kernel
theorem dX12_give_58 : decode cX12_give 58 = .ok (.aload_n 0, 1) := by decide +kernel
theorem dX12_give_59 : decode cX12_give 59 = .ok (.aload_n 0, 1) := by decide +kernel
theorem dX12_give_60 : decode cX12_give 60 = .ok (.getfield 8, 3) := by decide +kernel
theorem dX12_give_63 : decode cX12_give 63 = .ok (.bipush 9, 2) := by decide +kernel
theorem dX12_give_65 : decode cX12_give 65 = .ok (.iaload, 1) := by decide +kernel
theorem dX12_give_66 : decode cX12_give 66 = .ok (.invokevirtual 94, 3) := by decide +kernel
theorem dX12_give_69 : decode cX12_give 69 = .ok (.ireturn, 1) := by decide +kernel
theorem dX12_give_48 : decode cX12_give 48 = .ok (.aload_n 0, 1) := by decide +kernel
theorem dX12_give_49 : decode cX12_give 49 = .ok (.getfield 8, 3) := by decide +kernel
theorem dX12_give_52 : decode cX12_give 52 = .ok (.bipush 9, 2) := by decide +kernel
theorem dX12_give_54 : decode cX12_give 54 = .ok (.iaload, 1) := by decide +kernel
theorem dX12_give_55 : decode cX12_give 55 = .ok (.iload_n 1, 1) := by decide +kernel
theorem dX12_give_56 : decode cX12_give 56 = .ok (.iadd, 1) := by decide +kernel
theorem dX12_give_43 : decode cX12_give 43 = .ok (.ldc 124, 2) := by decide +kernel
theorem dX12_give_45 : decode cX12_give 45 = .ok (.goto 12, 3) := by decide +kernel
theorem dX12_give_17 : decode cX12_give 17 = .ok (.aload_n 0, 1) := by decide +kernel
theorem dX12_give_18 : decode cX12_give 18 = .ok (.iconst (-1), 1) := by decide +kernel
theorem dX12_give_19 : decode cX12_give 19 = .ok (.invokevirtual 94, 3) := by decide +kernel
theorem dX12_give_22 : decode cX12_give 22 = .ok (.ireturn, 1) := by decide +kernel
theorem dX12_estate_0 : decode cX12_estate 0 = .ok (.aload_n 0, 1) := by decide +kernel
theorem dX12_estate_1 : decode cX12_estate 1 = .ok (.iconst 0, 1) := by decide +kernel
theorem dX12_estate_2 : decode cX12_estate 2 = .ok (.putfield 82, 3) := by decide +kernel
theorem dX12_estate_5 : decode cX12_estate 5 = .ok (.iload_n 1, 1) := by decide +kernel
theorem dX12_estate_6 : decode cX12_estate 6 = .ok (.i2l, 1) := by decide +kernel
theorem dX12_estate_7 : decode cX12_estate 7 = .ok (.lconst 0, 1) := by decide +kernel
theorem dX12_estate_8 : decode cX12_estate 8 = .ok (.ldc2_w 122, 3) := by decide +kernel
theorem dX12_estate_11 : decode cX12_estate 11 = .ok (.invokestatic 90, 3) := by decide +kernel
theorem dX12_estate_14 : decode cX12_estate 14 = .ok (.ifCond .eq 15, 3) := by decide +kernel
theorem dX12_estate_29 : decode cX12_estate 29 = .ok (.aload_n 0, 1) := by decide +kernel
theorem dX12_estate_30 : decode cX12_estate 30 = .ok (.iconst (-1), 1) := by decide +kernel
theorem dX12_estate_31 : decode cX12_estate 31 = .ok (.invokevirtual 94, 3) := by decide +kernel
theorem dX12_estate_34 : decode cX12_estate 34 = .ok (.ireturn, 1) := by decide +kernel
theorem dX12_estate_17 : decode cX12_estate 17 = .ok (.iload_n 2, 1) := by decide +kernel
theorem dX12_estate_18 : decode cX12_estate 18 = .ok (.i2l, 1) := by decide +kernel
theorem dX12_estate_19 : decode cX12_estate 19 = .ok (.lconst 0, 1) := by decide +kernel
theorem dX12_estate_20 : decode cX12_estate 20 = .ok (.ldc2_w 100, 3) := by decide +kernel
theorem dX12_estate_23 : decode cX12_estate 23 = .ok (.invokestatic 90, 3) := by decide +kernel
theorem dX12_estate_26 : decode cX12_estate 26 = .ok (.ifCond .ne 9, 3) := by decide +kernel
theorem dX12_estate_35 : decode cX12_estate 35 = .ok (.aload_n 0, 1) := by decide +kernel
theorem dX12_estate_36 : decode cX12_estate 36 = .ok (.getfield 8, 3) := by decide +kernel
theorem dX12_estate_39 : decode cX12_estate 39 = .ok (.iconst 1, 1) := by decide +kernel
theorem dX12_estate_40 : decode cX12_estate 40 = .ok (.iaload, 1) := by decide +kernel
theorem dX12_estate_41 : decode cX12_estate 41 = .ok (.bipush 8, 2) := by decide +kernel
theorem dX12_estate_43 : decode cX12_estate 43 = .ok (.if_icmp .ne 10, 3) := by decide +kernel
theorem dX12_estate_53 : decode cX12_estate 53 = .ok (.aload_n 0, 1) := by decide +kernel
theorem dX12_estate_54 : decode cX12_estate 54 = .ok (.getfield 8, 3) := by decide +kernel
theorem dX12_estate_57 : decode cX12_estate 57 = .ok (.iconst 1, 1) := by decide +kernel
theorem dX12_estate_58 : decode cX12_estate 58 = .ok (.iaload, 1) := by decide +kernel
theorem dX12_estate_59 : decode cX12_estate 59 = .ok (.invokestatic 125, 3) := by decide +kernel
theorem dX12_estate_62 : decode cX12_estate 62 = .ok (.istore_n 3, 1) := by decide +kernel
theorem dX12_estate_63 : decode cX12_estate 63 = .ok (.aload_n 0, 1) := by decide +kernel
theorem dX12_estate_64 : decode cX12_estate 64 = .ok (.getfield 8, 3) := by decide +kernel
theorem dX12_estate_67 : decode cX12_estate 67 = .ok (.iload_n 3, 1) := by decide +kernel
theorem dX12_estate_68 : decode cX12_estate 68 = .ok (.iload_n 1, 1) := by decide +kernel
theorem dX12_estate_69 : decode cX12_estate 69 = .ok (.iastore, 1) := by decide +kernel
theorem dX12_estate_70 : decode cX12_estate 70 = .ok (.aload_n 0, 1) := by decide +kernel
theorem dX12_estate_71 : decode cX12_estate 71 = .ok (.getfield 8, 3) := by decide +kernel
theorem dX12_estate_74 : decode cX12_estate 74 = .ok (.iload_n 3, 1) := by decide +kernel
theorem dX12_estate_75 : decode cX12_estate 75 = .ok (.iconst 1, 1) := by decide +kernel
theorem dX12_estate_76 : decode cX12_estate 76 = .ok (.iadd, 1) := by decide +kernel
theorem dX12_estate_77 : decode cX12_estate 77 = .ok (.iload_n 2, 1) := by decide +kernel
theorem dX12_estate_78 : decode cX12_estate 78 = .ok (.iastore, 1) := by decide +kernel
theorem dX12_estate_79 : decode cX12_estate 79 = .ok (.aload_n 0, 1) := by decide +kernel
theorem dX12_estate_80 : decode cX12_estate 80 = .ok (.getfield 8, 3) := by decide +kernel
theorem dX12_estate_83 : decode cX12_estate 83 = .ok (.iload_n 3, 1) := by decide +kernel
theorem dX12_estate_84 : decode cX12_estate 84 = .ok (.iconst 2, 1) := by decide +kernel
theorem dX12_estate_85 : decode cX12_estate 85 = .ok (.iadd, 1) := by decide +kernel
theorem dX12_estate_86 : decode cX12_estate 86 = .ok (.iconst (-1), 1) := by decide +kernel
theorem dX12_estate_87 : decode cX12_estate 87 = .ok (.iastore, 1) := by decide +kernel
theorem dX12_estate_88 : decode cX12_estate 88 = .ok (.aload_n 0, 1) := by decide +kernel
theorem dX12_estate_89 : decode cX12_estate 89 = .ok (.getfield 8, 3) := by decide +kernel
theorem dX12_estate_92 : decode cX12_estate 92 = .ok (.iconst 1, 1) := by decide +kernel
theorem dX12_estate_93 : decode cX12_estate 93 = .ok (.dup2, 1) := by decide +kernel
theorem dX12_estate_94 : decode cX12_estate 94 = .ok (.iaload, 1) := by decide +kernel
theorem dX12_estate_95 : decode cX12_estate 95 = .ok (.iconst 1, 1) := by decide +kernel
theorem dX12_estate_96 : decode cX12_estate 96 = .ok (.iadd, 1) := by decide +kernel
theorem dX12_estate_97 : decode cX12_estate 97 = .ok (.iastore, 1) := by decide +kernel
theorem dX12_estate_98 : decode cX12_estate 98 = .ok (.aload_n 0, 1) := by decide +kernel
theorem dX12_estate_99 : decode cX12_estate 99 = .ok (.aload_n 0, 1) := by decide +kernel
theorem dX12_estate_100 : decode cX12_estate 100 = .ok (.getfield 8, 3) := by decide +kernel
theorem dX12_estate_103 : decode cX12_estate 103 = .ok (.iconst 1, 1) := by decide +kernel
theorem dX12_estate_104 : decode cX12_estate 104 = .ok (.iaload, 1) := by decide +kernel
theorem dX12_estate_105 : decode cX12_estate 105 = .ok (.iconst 1, 1) := by decide +kernel
theorem dX12_estate_106 : decode cX12_estate 106 = .ok (.isub, 1) := by decide +kernel
theorem dX12_estate_107 : decode cX12_estate 107 = .ok (.invokevirtual 94, 3) := by decide +kernel
theorem dX12_estate_110 : decode cX12_estate 110 = .ok (.ireturn, 1) := by decide +kernel
theorem dX12_estate_46 : decode cX12_estate 46 = .ok (.aload_n 0, 1) := by decide +kernel
theorem dX12_estate_47 : decode cX12_estate 47 = .ok (.bipush (-5), 2) := by decide +kernel
theorem dX12_estate_49 : decode cX12_estate 49 = .ok (.invokevirtual 94, 3) := by decide +kernel
theorem dX12_estate_52 : decode cX12_estate 52 = .ok (.ireturn, 1) := by decide +kernel
theorem dX12_field_0 : decode cX12_field 0 = .ok (.aload_n 0, 1) := by decide +kernel
theorem dX12_field_1 : decode cX12_field 1 = .ok (.iconst 0, 1) := by decide +kernel
theorem dX12_field_2 : decode cX12_field 2 = .ok (.putfield 82, 3) := by decide +kernel
theorem dX12_field_5 : decode cX12_field 5 = .ok (.iload_n 2, 1) := by decide +kernel
theorem dX12_field_6 : decode cX12_field 6 = .ok (.i2l, 1) := by decide +kernel
theorem dX12_field_7 : decode cX12_field 7 = .ok (.lconst 1, 1) := by decide +kernel
theorem dX12_field_8 : decode cX12_field 8 = .ok (.ldc2_w 128, 3) := by decide +kernel
theorem dX12_field_11 : decode cX12_field 11 = .ok (.invokestatic 90, 3) := by decide +kernel
theorem dX12_field_14 : decode cX12_field 14 = .ok (.ifCond .eq 15, 3) := by decide +kernel
theorem dX12_field_29 : decode cX12_field 29 = .ok (.aload_n 0, 1) := by decide +kernel
theorem dX12_field_30 : decode cX12_field 30 = .ok (.iconst (-1), 1) := by decide +kernel
theorem dX12_field_31 : decode cX12_field 31 = .ok (.invokevirtual 94, 3) := by decide +kernel
theorem dX12_field_34 : decode cX12_field 34 = .ok (.ireturn, 1) := by decide +kernel
theorem dX12_field_17 : decode cX12_field 17 = .ok (.iload_n 3, 1) := by decide +kernel
theorem dX12_field_18 : decode cX12_field 18 = .ok (.i2l, 1) := by decide +kernel
theorem dX12_field_19 : decode cX12_field 19 = .ok (.lconst 0, 1) := by decide +kernel
theorem dX12_field_20 : decode cX12_field 20 = .ok (.ldc2_w 130, 3) := by decide +kernel
theorem dX12_field_23 : decode cX12_field 23 = .ok (.invokestatic 90, 3) := by decide +kernel
theorem dX12_field_26 : decode cX12_field 26 = .ok (.ifCond .ne 9, 3) := by decide +kernel
theorem dX12_field_35 : decode cX12_field 35 = .ok (.aload_n 0, 1) := by decide +kernel
theorem dX12_field_36 : decode cX12_field 36 = .ok (.iload_n 1, 1) := by decide +kernel
theorem dX12_field_37 : decode cX12_field 37 = .ok (.invokevirtual 132, 3) := by decide +kernel
theorem dX12_field_40 : decode cX12_field 40 = .ok (.ifCond .eq 18, 3) := by decide +kernel
theorem dX12_field_58 : decode cX12_field 58 = .ok (.aload_n 0, 1) := by decide +kernel
theorem dX12_field_59 : decode cX12_field 59 = .ok (.bipush (-2), 2) := by decide +kernel
theorem dX12_field_61 : decode cX12_field 61 = .ok (.invokevirtual 94, 3) := by decide +kernel
theorem dX12_field_64 : decode cX12_field 64 = .ok (.ireturn, 1) := by decide +kernel
theorem dX12_field_43 : decode cX12_field 43 = .ok (.iload 4, 2) := by decide +kernel
theorem dX12_field_45 : decode cX12_field 45 = .ok (.iconst (-1), 1) := by decide +kernel
theorem dX12_field_46 : decode cX12_field 46 = .ok (.if_icmp .eq 19, 3) := by decide +kernel
theorem dX12_field_65 : decode cX12_field 65 = .ok (.iload 4, 2) := by decide +kernel
theorem dX12_field_67 : decode cX12_field 67 = .ok (.iconst (-1), 1) := by decide +kernel
theorem dX12_field_68 : decode cX12_field 68 = .ok (.if_icmp .eq 25, 3) := by decide +kernel
theorem dX12_field_93 : decode cX12_field 93 = .ok (.aload_n 0, 1) := by decide +kernel
theorem dX12_field_94 : decode cX12_field 94 = .ok (.getfield 8, 3) := by decide +kernel
theorem dX12_field_97 : decode cX12_field 97 = .ok (.iconst 2, 1) := by decide +kernel
theorem dX12_field_98 : decode cX12_field 98 = .ok (.iaload, 1) := by decide +kernel
theorem dX12_field_99 : decode cX12_field 99 = .ok (.bipush 40, 2) := by decide +kernel
theorem dX12_field_101 : decode cX12_field 101 = .ok (.if_icmp .ne 10, 3) := by decide +kernel
theorem dX12_field_111 : decode cX12_field 111 = .ok (.aload_n 0, 1) := by decide +kernel
theorem dX12_field_112 : decode cX12_field 112 = .ok (.getfield 8, 3) := by decide +kernel
theorem dX12_field_115 : decode cX12_field 115 = .ok (.iconst 2, 1) := by decide +kernel
theorem dX12_field_116 : decode cX12_field 116 = .ok (.iaload, 1) := by decide +kernel
theorem dX12_field_117 : decode cX12_field 117 = .ok (.invokestatic 135, 3) := by decide +kernel
theorem dX12_field_120 : decode cX12_field 120 = .ok (.istore 5, 2) := by decide +kernel
theorem dX12_field_122 : decode cX12_field 122 = .ok (.aload_n 0, 1) := by decide +kernel
theorem dX12_field_123 : decode cX12_field 123 = .ok (.iload 5, 2) := by decide +kernel
theorem dX12_field_125 : decode cX12_field 125 = .ok (.iload_n 1, 1) := by decide +kernel
theorem dX12_field_126 : decode cX12_field 126 = .ok (.iload_n 2, 1) := by decide +kernel
theorem dX12_field_127 : decode cX12_field 127 = .ok (.iload_n 3, 1) := by decide +kernel
theorem dX12_field_128 : decode cX12_field 128 = .ok (.iload 4, 2) := by decide +kernel
theorem dX12_field_130 : decode cX12_field 130 = .ok (.invokevirtual 107, 3) := by decide +kernel
theorem dX12_field_133 : decode cX12_field 133 = .ok (.aload_n 0, 1) := by decide +kernel
theorem dX12_field_134 : decode cX12_field 134 = .ok (.iload 5, 2) := by decide +kernel
theorem dX12_field_136 : decode cX12_field 136 = .ok (.iconst 4, 1) := by decide +kernel
theorem dX12_field_137 : decode cX12_field 137 = .ok (.iadd, 1) := by decide +kernel
theorem dX12_field_138 : decode cX12_field 138 = .ok (.iconst 0, 1) := by decide +kernel
theorem dX12_field_139 : decode cX12_field 139 = .ok (.iconst 0, 1) := by decide +kernel
theorem dX12_field_140 : decode cX12_field 140 = .ok (.iconst 0, 1) := by decide +kernel
theorem dX12_field_141 : decode cX12_field 141 = .ok (.iconst 0, 1) := by decide +kernel
theorem dX12_field_142 : decode cX12_field 142 = .ok (.invokevirtual 107, 3) := by decide +kernel
theorem dX12_field_145 : decode cX12_field 145 = .ok (.iload 4, 2) := by decide +kernel
theorem dX12_field_147 : decode cX12_field 147 = .ok (.iconst (-1), 1) := by decide +kernel
theorem dX12_field_148 : decode cX12_field 148 = .ok (.if_icmp .eq 17, 3) := by decide +kernel
theorem dX12_field_165 : decode cX12_field 165 = .ok (.aload_n 0, 1) := by decide +kernel
theorem dX12_field_166 : decode cX12_field 166 = .ok (.getfield 8, 3) := by decide +kernel
theorem dX12_field_169 : decode cX12_field 169 = .ok (.iconst 2, 1) := by decide +kernel
theorem dX12_field_170 : decode cX12_field 170 = .ok (.dup2, 1) := by decide +kernel
theorem dX12_field_171 : decode cX12_field 171 = .ok (.iaload, 1) := by decide +kernel
theorem dX12_field_172 : decode cX12_field 172 = .ok (.iconst 1, 1) := by decide +kernel
theorem dX12_field_173 : decode cX12_field 173 = .ok (.iadd, 1) := by decide +kernel
theorem dX12_field_174 : decode cX12_field 174 = .ok (.iastore, 1) := by decide +kernel
theorem dX12_field_175 : decode cX12_field 175 = .ok (.aload_n 0, 1) := by decide +kernel
theorem dX12_field_176 : decode cX12_field 176 = .ok (.aload_n 0, 1) := by decide +kernel
theorem dX12_field_177 : decode cX12_field 177 = .ok (.getfield 8, 3) := by decide +kernel
theorem dX12_field_180 : decode cX12_field 180 = .ok (.iconst 2, 1) := by decide +kernel
theorem dX12_field_181 : decode cX12_field 181 = .ok (.iaload, 1) := by decide +kernel
theorem dX12_field_182 : decode cX12_field 182 = .ok (.iconst 1, 1) := by decide +kernel
theorem dX12_field_183 : decode cX12_field 183 = .ok (.isub, 1) := by decide +kernel
theorem dX12_field_184 : decode cX12_field 184 = .ok (.invokevirtual 94, 3) := by decide +kernel
theorem dX12_field_187 : decode cX12_field 187 = .ok (.ireturn, 1) := by decide +kernel
theorem dX12_field_104 : decode cX12_field 104 = .ok (.aload_n 0, 1) := by decide +kernel
theorem dX12_field_105 : decode cX12_field 105 = .ok (.bipush (-5), 2) := by decide +kernel
theorem dX12_field_107 : decode cX12_field 107 = .ok (.invokevirtual 94, 3) := by decide +kernel
theorem dX12_field_110 : decode cX12_field 110 = .ok (.ireturn, 1) := by decide +kernel
theorem dX12_field_49 : decode cX12_field 49 = .ok (.aload_n 0, 1) := by decide +kernel
theorem dX12_field_50 : decode cX12_field 50 = .ok (.iload 4, 2) := by decide +kernel
theorem dX12_field_52 : decode cX12_field 52 = .ok (.invokevirtual 111, 3) := by decide +kernel
theorem dX12_field_55 : decode cX12_field 55 = .ok (.ifCond .ne 10, 3) := by decide +kernel
theorem dX12_field_71 : decode cX12_field 71 = .ok (.aload_n 0, 1) := by decide +kernel
theorem dX12_field_72 : decode cX12_field 72 = .ok (.getfield 8, 3) := by decide +kernel
theorem dX12_field_75 : decode cX12_field 75 = .ok (.iload 4, 2) := by decide +kernel
theorem dX12_field_77 : decode cX12_field 77 = .ok (.invokestatic 104, 3) := by decide +kernel
theorem dX12_field_80 : decode cX12_field 80 = .ok (.iconst 5, 1) := by decide +kernel
theorem dX12_field_81 : decode cX12_field 81 = .ok (.iadd, 1) := by decide +kernel
theorem dX12_field_82 : decode cX12_field 82 = .ok (.iaload, 1) := by decide +kernel
theorem dX12_field_83 : decode cX12_field 83 = .ok (.ifCond .eq 10, 3) := by decide +kernel
theorem dX12_field_151 : decode cX12_field 151 = .ok (.aload_n 0, 1) := by decide +kernel
theorem dX12_field_152 : decode cX12_field 152 = .ok (.getfield 8, 3) := by decide +kernel
theorem dX12_field_155 : decode cX12_field 155 = .ok (.iload 4, 2) := by decide +kernel
theorem dX12_field_157 : decode cX12_field 157 = .ok (.invokestatic 104, 3) := by decide +kernel
theorem dX12_field_160 : decode cX12_field 160 = .ok (.bipush 7, 2) := by decide +kernel
theorem dX12_field_162 : decode cX12_field 162 = .ok (.iadd, 1) := by decide +kernel
theorem dX12_field_163 : decode cX12_field 163 = .ok (.iconst (-1), 1) := by decide +kernel
theorem dX12_field_164 : decode cX12_field 164 = .ok (.iastore, 1) := by decide +kernel
theorem dX12_field_86 : decode cX12_field 86 = .ok (.aload_n 0, 1) := by decide +kernel
theorem dX12_field_87 : decode cX12_field 87 = .ok (.bipush (-3), 2) := by decide +kernel
theorem dX12_field_89 : decode cX12_field 89 = .ok (.invokevirtual 94, 3) := by decide +kernel
theorem dX12_field_92 : decode cX12_field 92 = .ok (.ireturn, 1) := by decide +kernel
theorem dX12_kinOf_0 : decode cX12_kinOf 0 = .ok (.iconst 0, 1) := by decide +kernel
theorem dX12_kinOf_1 : decode cX12_kinOf 1 = .ok (.istore_n 2, 1) := by decide +kernel
theorem dX12_kinOf_2 : decode cX12_kinOf 2 = .ok (.iconst 0, 1) := by decide +kernel
theorem dX12_kinOf_3 : decode cX12_kinOf 3 = .ok (.istore_n 3, 1) := by decide +kernel
theorem dX12_kinOf_4 : decode cX12_kinOf 4 = .ok (.iload_n 3, 1) := by decide +kernel
theorem dX12_kinOf_5 : decode cX12_kinOf 5 = .ok (.aload_n 0, 1) := by decide +kernel
theorem dX12_kinOf_6 : decode cX12_kinOf 6 = .ok (.getfield 8, 3) := by decide +kernel
theorem dX12_kinOf_9 : decode cX12_kinOf 9 = .ok (.iconst 0, 1) := by decide +kernel
theorem dX12_kinOf_10 : decode cX12_kinOf 10 = .ok (.iaload, 1) := by decide +kernel
theorem dX12_kinOf_11 : decode cX12_kinOf 11 = .ok (.if_icmp .ge 57, 3) := by decide +kernel
theorem dX12_kinOf_68 : decode cX12_kinOf 68 = .ok (.iload_n 2, 1) := by decide +kernel
theorem dX12_kinOf_69 : decode cX12_kinOf 69 = .ok (.ireturn, 1) := by decide +kernel
theorem dX12_kinOf_14 : decode cX12_kinOf 14 = .ok (.iload_n 2, 1) := by decide +kernel
theorem dX12_kinOf_15 : decode cX12_kinOf 15 = .ok (.iload_n 3, 1) := by decide +kernel
theorem dX12_kinOf_16 : decode cX12_kinOf 16 = .ok (.iload_n 1, 1) := by decide +kernel
theorem dX12_kinOf_17 : decode cX12_kinOf 17 = .ok (.if_icmp .eq 42, 3) := by decide +kernel
theorem dX12_kinOf_60 : decode cX12_kinOf 60 = .ok (.iadd, 1) := by decide +kernel
theorem dX12_kinOf_61 : decode cX12_kinOf 61 = .ok (.istore_n 2, 1) := by decide +kernel
theorem dX12_kinOf_62 : decode cX12_kinOf 62 = .ok (.iinc 3 1, 3) := by decide +kernel
theorem dX12_kinOf_65 : decode cX12_kinOf 65 = .ok (.goto (-61), 3) := by decide +kernel
theorem dX12_kinOf_59 : decode cX12_kinOf 59 = .ok (.iconst 0, 1) := by decide +kernel
theorem dX12_kinOf_20 : decode cX12_kinOf 20 = .ok (.aload_n 0, 1) := by decide +kernel
theorem dX12_kinOf_21 : decode cX12_kinOf 21 = .ok (.getfield 8, 3) := by decide +kernel
theorem dX12_kinOf_24 : decode cX12_kinOf 24 = .ok (.iload_n 3, 1) := by decide +kernel
theorem dX12_kinOf_25 : decode cX12_kinOf 25 = .ok (.invokestatic 104, 3) := by decide +kernel
theorem dX12_kinOf_28 : decode cX12_kinOf 28 = .ok (.iaload, 1) := by decide +kernel
theorem dX12_kinOf_29 : decode cX12_kinOf 29 = .ok (.aload_n 0, 1) := by decide +kernel
theorem dX12_kinOf_30 : decode cX12_kinOf 30 = .ok (.getfield 8, 3) := by decide +kernel
theorem dX12_kinOf_33 : decode cX12_kinOf 33 = .ok (.iload_n 1, 1) := by decide +kernel
theorem dX12_kinOf_34 : decode cX12_kinOf 34 = .ok (.invokestatic 104, 3) := by decide +kernel
theorem dX12_kinOf_37 : decode cX12_kinOf 37 = .ok (.iaload, 1) := by decide +kernel
theorem dX12_kinOf_38 : decode cX12_kinOf 38 = .ok (.if_icmp .ne 21, 3) := by decide +kernel
theorem dX12_kinOf_41 : decode cX12_kinOf 41 = .ok (.aload_n 0, 1) := by decide +kernel
theorem dX12_kinOf_42 : decode cX12_kinOf 42 = .ok (.getfield 8, 3) := by decide +kernel
theorem dX12_kinOf_45 : decode cX12_kinOf 45 = .ok (.iload_n 3, 1) := by decide +kernel
theorem dX12_kinOf_46 : decode cX12_kinOf 46 = .ok (.invokestatic 104, 3) := by decide +kernel
theorem dX12_kinOf_49 : decode cX12_kinOf 49 = .ok (.iconst 5, 1) := by decide +kernel
theorem dX12_kinOf_50 : decode cX12_kinOf 50 = .ok (.iadd, 1) := by decide +kernel
theorem dX12_kinOf_51 : decode cX12_kinOf 51 = .ok (.iaload, 1) := by decide +kernel
theorem dX12_kinOf_52 : decode cX12_kinOf 52 = .ok (.ifCond .ne 7, 3) := by decide +kernel
theorem dX12_kinOf_55 : decode cX12_kinOf 55 = .ok (.iconst 1, 1) := by decide +kernel
theorem dX12_kinOf_56 : decode cX12_kinOf 56 = .ok (.goto 4, 3) := by decide +kernel
theorem dX12_of_0 : decode cX12_of 0 = .ok (.aload_n 0, 1) := by decide +kernel
theorem dX12_of_1 : decode cX12_of 1 = .ok (.iconst 0, 1) := by decide +kernel
theorem dX12_of_2 : decode cX12_of 2 = .ok (.putfield 82, 3) := by decide +kernel
theorem dX12_of_5 : decode cX12_of 5 = .ok (.aload_n 0, 1) := by decide +kernel
theorem dX12_of_6 : decode cX12_of 6 = .ok (.iload_n 1, 1) := by decide +kernel
theorem dX12_of_7 : decode cX12_of 7 = .ok (.invokevirtual 111, 3) := by decide +kernel
theorem dX12_of_10 : decode cX12_of 10 = .ok (.ifCond .ne 5, 3) := by decide +kernel
theorem dX12_of_15 : decode cX12_of 15 = .ok (.iload_n 1, 1) := by decide +kernel
theorem dX12_of_16 : decode cX12_of 16 = .ok (.invokestatic 104, 3) := by decide +kernel
theorem dX12_of_19 : decode cX12_of 19 = .ok (.istore_n 3, 1) := by decide +kernel
theorem dX12_of_20 : decode cX12_of 20 = .ok (.iload_n 2, 1) := by decide +kernel
theorem dX12_of_21 : decode cX12_of 21 = .ok (.tableswitch 92 0 5 #[39, 48, 57, 66, 76, 86], 39) := by decide +kernel
theorem dX12_of_60 : decode cX12_of 60 = .ok (.aload_n 0, 1) := by decide +kernel
theorem dX12_of_61 : decode cX12_of 61 = .ok (.getfield 8, 3) := by decide +kernel
theorem dX12_of_64 : decode cX12_of 64 = .ok (.iload_n 3, 1) := by decide +kernel
theorem dX12_of_65 : decode cX12_of 65 = .ok (.iconst 5, 1) := by decide +kernel
theorem dX12_of_66 : decode cX12_of 66 = .ok (.iadd, 1) := by decide +kernel
theorem dX12_of_67 : decode cX12_of 67 = .ok (.iaload, 1) := by decide +kernel
theorem dX12_of_68 : decode cX12_of 68 = .ok (.ireturn, 1) := by decide +kernel
theorem dX12_of_69 : decode cX12_of 69 = .ok (.aload_n 0, 1) := by decide +kernel
theorem dX12_of_70 : decode cX12_of 70 = .ok (.getfield 8, 3) := by decide +kernel
theorem dX12_of_73 : decode cX12_of 73 = .ok (.iload_n 3, 1) := by decide +kernel
theorem dX12_of_74 : decode cX12_of 74 = .ok (.iconst 1, 1) := by decide +kernel
theorem dX12_of_75 : decode cX12_of 75 = .ok (.iadd, 1) := by decide +kernel
theorem dX12_of_76 : decode cX12_of 76 = .ok (.iaload, 1) := by decide +kernel
theorem dX12_of_77 : decode cX12_of 77 = .ok (.ireturn, 1) := by decide +kernel
theorem dX12_of_78 : decode cX12_of 78 = .ok (.aload_n 0, 1) := by decide +kernel
theorem dX12_of_79 : decode cX12_of 79 = .ok (.getfield 8, 3) := by decide +kernel
theorem dX12_of_82 : decode cX12_of 82 = .ok (.iload_n 3, 1) := by decide +kernel
theorem dX12_of_83 : decode cX12_of 83 = .ok (.iconst 4, 1) := by decide +kernel
theorem dX12_of_84 : decode cX12_of 84 = .ok (.iadd, 1) := by decide +kernel
theorem dX12_of_85 : decode cX12_of 85 = .ok (.iaload, 1) := by decide +kernel
theorem dX12_of_86 : decode cX12_of 86 = .ok (.ireturn, 1) := by decide +kernel
theorem dX12_of_87 : decode cX12_of 87 = .ok (.aload_n 0, 1) := by decide +kernel
theorem dX12_of_88 : decode cX12_of 88 = .ok (.getfield 8, 3) := by decide +kernel
theorem dX12_of_91 : decode cX12_of 91 = .ok (.iload_n 3, 1) := by decide +kernel
theorem dX12_of_92 : decode cX12_of 92 = .ok (.bipush 6, 2) := by decide +kernel
theorem dX12_of_94 : decode cX12_of 94 = .ok (.iadd, 1) := by decide +kernel
theorem dX12_of_95 : decode cX12_of 95 = .ok (.iaload, 1) := by decide +kernel
theorem dX12_of_96 : decode cX12_of 96 = .ok (.ireturn, 1) := by decide +kernel
theorem dX12_of_97 : decode cX12_of 97 = .ok (.aload_n 0, 1) := by decide +kernel
theorem dX12_of_98 : decode cX12_of 98 = .ok (.getfield 8, 3) := by decide +kernel
theorem dX12_of_101 : decode cX12_of 101 = .ok (.iload_n 3, 1) := by decide +kernel
theorem dX12_of_102 : decode cX12_of 102 = .ok (.bipush 7, 2) := by decide +kernel
theorem dX12_of_104 : decode cX12_of 104 = .ok (.iadd, 1) := by decide +kernel
theorem dX12_of_105 : decode cX12_of 105 = .ok (.iaload, 1) := by decide +kernel
theorem dX12_of_106 : decode cX12_of 106 = .ok (.ireturn, 1) := by decide +kernel
theorem dX12_of_107 : decode cX12_of 107 = .ok (.aload_n 0, 1) := by decide +kernel
theorem dX12_of_108 : decode cX12_of 108 = .ok (.iload_n 1, 1) := by decide +kernel
theorem dX12_of_109 : decode cX12_of 109 = .ok (.invokevirtual 138, 3) := by decide +kernel
theorem dX12_of_112 : decode cX12_of 112 = .ok (.ireturn, 1) := by decide +kernel
theorem dX12_of_113 : decode cX12_of 113 = .ok (.iconst (-1), 1) := by decide +kernel
theorem dX12_of_114 : decode cX12_of 114 = .ok (.ireturn, 1) := by decide +kernel
theorem dX12_of_13 : decode cX12_of 13 = .ok (.iconst (-1), 1) := by decide +kernel
theorem dX12_of_14 : decode cX12_of 14 = .ok (.ireturn, 1) := by decide +kernel
theorem dX12_writOf_0 : decode cX12_writOf 0 = .ok (.iconst (-1), 1) := by decide +kernel
theorem dX12_writOf_1 : decode cX12_writOf 1 = .ok (.istore_n 2, 1) := by decide +kernel
theorem dX12_writOf_2 : decode cX12_writOf 2 = .ok (.iconst 0, 1) := by decide +kernel
theorem dX12_writOf_3 : decode cX12_writOf 3 = .ok (.istore_n 3, 1) := by decide +kernel
theorem dX12_writOf_4 : decode cX12_writOf 4 = .ok (.iload_n 3, 1) := by decide +kernel
theorem dX12_writOf_5 : decode cX12_writOf 5 = .ok (.aload_n 0, 1) := by decide +kernel
theorem dX12_writOf_6 : decode cX12_writOf 6 = .ok (.getfield 8, 3) := by decide +kernel
theorem dX12_writOf_9 : decode cX12_writOf 9 = .ok (.iconst 4, 1) := by decide +kernel
theorem dX12_writOf_10 : decode cX12_writOf 10 = .ok (.iaload, 1) := by decide +kernel
theorem dX12_writOf_11 : decode cX12_writOf 11 = .ok (.if_icmp .ge 50, 3) := by decide +kernel
theorem dX12_writOf_61 : decode cX12_writOf 61 = .ok (.iload_n 2, 1) := by decide +kernel
theorem dX12_writOf_62 : decode cX12_writOf 62 = .ok (.ireturn, 1) := by decide +kernel
theorem dX12_writOf_14 : decode cX12_writOf 14 = .ok (.aload_n 0, 1) := by decide +kernel
theorem dX12_writOf_15 : decode cX12_writOf 15 = .ok (.getfield 8, 3) := by decide +kernel
theorem dX12_writOf_18 : decode cX12_writOf 18 = .ok (.sipush 684, 3) := by decide +kernel
theorem dX12_writOf_21 : decode cX12_writOf 21 = .ok (.bipush 6, 2) := by decide +kernel
theorem dX12_writOf_23 : decode cX12_writOf 23 = .ok (.iload_n 3, 1) := by decide +kernel
theorem dX12_writOf_24 : decode cX12_writOf 24 = .ok (.imul, 1) := by decide +kernel
theorem dX12_writOf_25 : decode cX12_writOf 25 = .ok (.iadd, 1) := by decide +kernel
theorem dX12_writOf_26 : decode cX12_writOf 26 = .ok (.iaload, 1) := by decide +kernel
theorem dX12_writOf_27 : decode cX12_writOf 27 = .ok (.iload_n 1, 1) := by decide +kernel
theorem dX12_writOf_28 : decode cX12_writOf 28 = .ok (.if_icmp .ne 25, 3) := by decide +kernel
theorem dX12_writOf_54 : decode cX12_writOf 54 = .ok (.istore_n 2, 1) := by decide +kernel
theorem dX12_writOf_55 : decode cX12_writOf 55 = .ok (.iinc 3 1, 3) := by decide +kernel
theorem dX12_writOf_58 : decode cX12_writOf 58 = .ok (.goto (-54), 3) := by decide +kernel
theorem dX12_writOf_53 : decode cX12_writOf 53 = .ok (.iload_n 2, 1) := by decide +kernel
theorem dX12_writOf_31 : decode cX12_writOf 31 = .ok (.aload_n 0, 1) := by decide +kernel
theorem dX12_writOf_32 : decode cX12_writOf 32 = .ok (.getfield 8, 3) := by decide +kernel
theorem dX12_writOf_35 : decode cX12_writOf 35 = .ok (.sipush 684, 3) := by decide +kernel
theorem dX12_writOf_38 : decode cX12_writOf 38 = .ok (.bipush 6, 2) := by decide +kernel
theorem dX12_writOf_40 : decode cX12_writOf 40 = .ok (.iload_n 3, 1) := by decide +kernel
theorem dX12_writOf_41 : decode cX12_writOf 41 = .ok (.imul, 1) := by decide +kernel
theorem dX12_writOf_42 : decode cX12_writOf 42 = .ok (.iadd, 1) := by decide +kernel
theorem dX12_writOf_43 : decode cX12_writOf 43 = .ok (.iconst 5, 1) := by decide +kernel
theorem dX12_writOf_44 : decode cX12_writOf 44 = .ok (.iadd, 1) := by decide +kernel
theorem dX12_writOf_45 : decode cX12_writOf 45 = .ok (.iaload, 1) := by decide +kernel
theorem dX12_writOf_46 : decode cX12_writOf 46 = .ok (.ifCond .ne 7, 3) := by decide +kernel
theorem dX12_writOf_49 : decode cX12_writOf 49 = .ok (.iload_n 3, 1) := by decide +kernel
theorem dX12_writOf_50 : decode cX12_writOf 50 = .ok (.goto 4, 3) := by decide +kernel
theorem dX12_owner_0 : decode cX12_owner 0 = .ok (.aload_n 0, 1) := by decide +kernel
theorem dX12_owner_1 : decode cX12_owner 1 = .ok (.iconst 0, 1) := by decide +kernel
theorem dX12_owner_2 : decode cX12_owner 2 = .ok (.putfield 82, 3) := by decide +kernel
theorem dX12_owner_5 : decode cX12_owner 5 = .ok (.aload_n 0, 1) := by decide +kernel
theorem dX12_owner_6 : decode cX12_owner 6 = .ok (.iload_n 1, 1) := by decide +kernel
theorem dX12_owner_7 : decode cX12_owner 7 = .ok (.invokevirtual 132, 3) := by decide +kernel
theorem dX12_owner_10 : decode cX12_owner 10 = .ok (.ifCond .ne 7, 3) := by decide +kernel
theorem dX12_owner_53 : decode cX12_owner 53 = .ok (.ireturn, 1) := by decide +kernel
theorem dX12_owner_17 : decode cX12_owner 17 = .ok (.iload_n 2, 1) := by decide +kernel
theorem dX12_owner_18 : decode cX12_owner 18 = .ok (.ifCond .ne 15, 3) := by decide +kernel
theorem dX12_owner_33 : decode cX12_owner 33 = .ok (.iload_n 2, 1) := by decide +kernel
theorem dX12_owner_34 : decode cX12_owner 34 = .ok (.iconst 1, 1) := by decide +kernel
theorem dX12_owner_35 : decode cX12_owner 35 = .ok (.if_icmp .ne 17, 3) := by decide +kernel
theorem dX12_owner_52 : decode cX12_owner 52 = .ok (.iconst (-1), 1) := by decide +kernel
theorem dX12_owner_38 : decode cX12_owner 38 = .ok (.aload_n 0, 1) := by decide +kernel
theorem dX12_owner_39 : decode cX12_owner 39 = .ok (.getfield 8, 3) := by decide +kernel
theorem dX12_owner_42 : decode cX12_owner 42 = .ok (.iload_n 1, 1) := by decide +kernel
theorem dX12_owner_43 : decode cX12_owner 43 = .ok (.invokestatic 125, 3) := by decide +kernel
theorem dX12_owner_46 : decode cX12_owner 46 = .ok (.iconst 2, 1) := by decide +kernel
theorem dX12_owner_47 : decode cX12_owner 47 = .ok (.iadd, 1) := by decide +kernel
theorem dX12_owner_48 : decode cX12_owner 48 = .ok (.iaload, 1) := by decide +kernel
theorem dX12_owner_49 : decode cX12_owner 49 = .ok (.goto 4, 3) := by decide +kernel
theorem dX12_owner_21 : decode cX12_owner 21 = .ok (.aload_n 0, 1) := by decide +kernel
theorem dX12_owner_22 : decode cX12_owner 22 = .ok (.getfield 8, 3) := by decide +kernel
theorem dX12_owner_25 : decode cX12_owner 25 = .ok (.iload_n 1, 1) := by decide +kernel
theorem dX12_owner_26 : decode cX12_owner 26 = .ok (.invokestatic 125, 3) := by decide +kernel
theorem dX12_owner_29 : decode cX12_owner 29 = .ok (.iaload, 1) := by decide +kernel
theorem dX12_owner_30 : decode cX12_owner 30 = .ok (.goto 23, 3) := by decide +kernel
theorem dX12_owner_13 : decode cX12_owner 13 = .ok (.iconst (-1), 1) := by decide +kernel
theorem dX12_owner_14 : decode cX12_owner 14 = .ok (.goto 39, 3) := by decide +kernel
theorem dX12_fund_0 : decode cX12_fund 0 = .ok (.aload_n 0, 1) := by decide +kernel
theorem dX12_fund_1 : decode cX12_fund 1 = .ok (.iconst 0, 1) := by decide +kernel
theorem dX12_fund_2 : decode cX12_fund 2 = .ok (.putfield 82, 3) := by decide +kernel
theorem dX12_fund_5 : decode cX12_fund 5 = .ok (.aload_n 0, 1) := by decide +kernel
theorem dX12_fund_6 : decode cX12_fund 6 = .ok (.getfield 8, 3) := by decide +kernel
theorem dX12_fund_9 : decode cX12_fund 9 = .ok (.bipush 9, 2) := by decide +kernel
theorem dX12_fund_11 : decode cX12_fund 11 = .ok (.iaload, 1) := by decide +kernel
theorem dX12_fund_12 : decode cX12_fund 12 = .ok (.ireturn, 1) := by decide +kernel
theorem dX12_price_0 : decode cX12_price 0 = .ok (.aload_n 0, 1) := by decide +kernel
theorem dX12_price_1 : decode cX12_price 1 = .ok (.iconst 0, 1) := by decide +kernel
theorem dX12_price_2 : decode cX12_price 2 = .ok (.putfield 82, 3) := by decide +kernel
theorem dX12_price_5 : decode cX12_price 5 = .ok (.iload_n 1, 1) := by decide +kernel
theorem dX12_price_6 : decode cX12_price 6 = .ok (.invokestatic 156, 3) := by decide +kernel
theorem dX12_price_9 : decode cX12_price 9 = .ok (.ifCond .eq 15, 3) := by decide +kernel
theorem dX12_price_24 : decode cX12_price 24 = .ok (.aload_n 0, 1) := by decide +kernel
theorem dX12_price_25 : decode cX12_price 25 = .ok (.iconst (-1), 1) := by decide +kernel
theorem dX12_price_26 : decode cX12_price 26 = .ok (.invokevirtual 94, 3) := by decide +kernel
theorem dX12_price_29 : decode cX12_price 29 = .ok (.ireturn, 1) := by decide +kernel
theorem dX12_price_12 : decode cX12_price 12 = .ok (.iload_n 2, 1) := by decide +kernel
theorem dX12_price_13 : decode cX12_price 13 = .ok (.i2l, 1) := by decide +kernel
theorem dX12_price_14 : decode cX12_price 14 = .ok (.lconst 0, 1) := by decide +kernel
theorem dX12_price_15 : decode cX12_price 15 = .ok (.ldc2_w 159, 3) := by decide +kernel
theorem dX12_price_18 : decode cX12_price 18 = .ok (.invokestatic 90, 3) := by decide +kernel
theorem dX12_price_21 : decode cX12_price 21 = .ok (.ifCond .ne 9, 3) := by decide +kernel
theorem dX12_price_30 : decode cX12_price 30 = .ok (.aload_n 0, 1) := by decide +kernel
theorem dX12_price_31 : decode cX12_price 31 = .ok (.getfield 8, 3) := by decide +kernel
theorem dX12_price_34 : decode cX12_price 34 = .ok (.sipush 1182, 3) := by decide +kernel
theorem dX12_price_37 : decode cX12_price 37 = .ok (.iload_n 1, 1) := by decide +kernel
theorem dX12_price_38 : decode cX12_price 38 = .ok (.iadd, 1) := by decide +kernel
theorem dX12_price_39 : decode cX12_price 39 = .ok (.iload_n 2, 1) := by decide +kernel
theorem dX12_price_40 : decode cX12_price 40 = .ok (.iconst 1, 1) := by decide +kernel
theorem dX12_price_41 : decode cX12_price 41 = .ok (.iadd, 1) := by decide +kernel
theorem dX12_price_42 : decode cX12_price 42 = .ok (.iastore, 1) := by decide +kernel
theorem dX12_price_43 : decode cX12_price 43 = .ok (.aload_n 0, 1) := by decide +kernel
theorem dX12_price_44 : decode cX12_price 44 = .ok (.iconst 0, 1) := by decide +kernel
theorem dX12_price_45 : decode cX12_price 45 = .ok (.invokevirtual 94, 3) := by decide +kernel
theorem dX12_price_48 : decode cX12_price 48 = .ok (.ireturn, 1) := by decide +kernel
theorem dX12_priceNow_0 : decode cX12_priceNow 0 = .ok (.aload_n 0, 1) := by decide +kernel
theorem dX12_priceNow_1 : decode cX12_priceNow 1 = .ok (.getfield 161, 3) := by decide +kernel
theorem dX12_priceNow_4 : decode cX12_priceNow 4 = .ok (.ifCond .eq 8, 3) := by decide +kernel
theorem dX12_priceNow_12 : decode cX12_priceNow 12 = .ok (.bipush 100, 2) := by decide +kernel
theorem dX12_priceNow_14 : decode cX12_priceNow 14 = .ok (.istore_n 1, 1) := by decide +kernel
theorem dX12_priceNow_15 : decode cX12_priceNow 15 = .ok (.iconst 0, 1) := by decide +kernel
theorem dX12_priceNow_16 : decode cX12_priceNow 16 = .ok (.istore_n 2, 1) := by decide +kernel
theorem dX12_priceNow_17 : decode cX12_priceNow 17 = .ok (.iload_n 2, 1) := by decide +kernel
theorem dX12_priceNow_18 : decode cX12_priceNow 18 = .ok (.aload_n 0, 1) := by decide +kernel
theorem dX12_priceNow_19 : decode cX12_priceNow 19 = .ok (.getfield 8, 3) := by decide +kernel
theorem dX12_priceNow_22 : decode cX12_priceNow 22 = .ok (.bipush 8, 2) := by decide +kernel
theorem dX12_priceNow_24 : decode cX12_priceNow 24 = .ok (.iaload, 1) := by decide +kernel
theorem dX12_priceNow_25 : decode cX12_priceNow 25 = .ok (.if_icmp .gt 39, 3) := by decide +kernel
theorem dX12_priceNow_64 : decode cX12_priceNow 64 = .ok (.iload_n 1, 1) := by decide +kernel
theorem dX12_priceNow_65 : decode cX12_priceNow 65 = .ok (.ireturn, 1) := by decide +kernel
theorem dX12_priceNow_28 : decode cX12_priceNow 28 = .ok (.aload_n 0, 1) := by decide +kernel
theorem dX12_priceNow_29 : decode cX12_priceNow 29 = .ok (.getfield 8, 3) := by decide +kernel
theorem dX12_priceNow_32 : decode cX12_priceNow 32 = .ok (.sipush 1182, 3) := by decide +kernel
theorem dX12_priceNow_35 : decode cX12_priceNow 35 = .ok (.iload_n 2, 1) := by decide +kernel
theorem dX12_priceNow_36 : decode cX12_priceNow 36 = .ok (.iadd, 1) := by decide +kernel
theorem dX12_priceNow_37 : decode cX12_priceNow 37 = .ok (.iaload, 1) := by decide +kernel
theorem dX12_priceNow_38 : decode cX12_priceNow 38 = .ok (.ifCond .le 18, 3) := by decide +kernel
theorem dX12_priceNow_57 : decode cX12_priceNow 57 = .ok (.istore_n 1, 1) := by decide +kernel
theorem dX12_priceNow_58 : decode cX12_priceNow 58 = .ok (.iinc 2 1, 3) := by decide +kernel
theorem dX12_priceNow_61 : decode cX12_priceNow 61 = .ok (.goto (-44), 3) := by decide +kernel
theorem dX12_priceNow_56 : decode cX12_priceNow 56 = .ok (.iload_n 1, 1) := by decide +kernel
theorem dX12_priceNow_41 : decode cX12_priceNow 41 = .ok (.aload_n 0, 1) := by decide +kernel
theorem dX12_priceNow_42 : decode cX12_priceNow 42 = .ok (.getfield 8, 3) := by decide +kernel
theorem dX12_priceNow_45 : decode cX12_priceNow 45 = .ok (.sipush 1182, 3) := by decide +kernel
theorem dX12_priceNow_48 : decode cX12_priceNow 48 = .ok (.iload_n 2, 1) := by decide +kernel
theorem dX12_priceNow_49 : decode cX12_priceNow 49 = .ok (.iadd, 1) := by decide +kernel
theorem dX12_priceNow_50 : decode cX12_priceNow 50 = .ok (.iaload, 1) := by decide +kernel
theorem dX12_priceNow_51 : decode cX12_priceNow 51 = .ok (.iconst 1, 1) := by decide +kernel
theorem dX12_priceNow_52 : decode cX12_priceNow 52 = .ok (.isub, 1) := by decide +kernel
theorem dX12_priceNow_53 : decode cX12_priceNow 53 = .ok (.goto 4, 3) := by decide +kernel
theorem dX12_priceNow_7 : decode cX12_priceNow 7 = .ok (.aload_n 0, 1) := by decide +kernel
theorem dX12_priceNow_8 : decode cX12_priceNow 8 = .ok (.getfield 165, 3) := by decide +kernel
theorem dX12_priceNow_11 : decode cX12_priceNow 11 = .ok (.ireturn, 1) := by decide +kernel
theorem dX12_crop_0 : decode cX12_crop 0 = .ok (.aload_n 0, 1) := by decide +kernel
theorem dX12_crop_1 : decode cX12_crop 1 = .ok (.iconst 0, 1) := by decide +kernel
theorem dX12_crop_2 : decode cX12_crop 2 = .ok (.putfield 82, 3) := by decide +kernel
theorem dX12_crop_5 : decode cX12_crop 5 = .ok (.aload_n 0, 1) := by decide +kernel
theorem dX12_crop_6 : decode cX12_crop 6 = .ok (.iload_n 1, 1) := by decide +kernel
theorem dX12_crop_7 : decode cX12_crop 7 = .ok (.invokevirtual 141, 3) := by decide +kernel
theorem dX12_crop_10 : decode cX12_crop 10 = .ok (.ifCond .eq 32, 3) := by decide +kernel
theorem dX12_crop_43 : decode cX12_crop 43 = .ok (.ireturn, 1) := by decide +kernel
theorem dX12_crop_42 : decode cX12_crop 42 = .ok (.iconst (-1), 1) := by decide +kernel
theorem dX12_crop_13 : decode cX12_crop 13 = .ok (.iload_n 2, 1) := by decide +kernel
theorem dX12_crop_14 : decode cX12_crop 14 = .ok (.invokestatic 156, 3) := by decide +kernel
theorem dX12_crop_17 : decode cX12_crop 17 = .ok (.ifCond .eq 25, 3) := by decide +kernel
theorem dX12_crop_20 : decode cX12_crop 20 = .ok (.aload_n 0, 1) := by decide +kernel
theorem dX12_crop_21 : decode cX12_crop 21 = .ok (.getfield 8, 3) := by decide +kernel
theorem dX12_crop_24 : decode cX12_crop 24 = .ok (.sipush 1582, 3) := by decide +kernel
theorem dX12_crop_27 : decode cX12_crop 27 = .ok (.bipush 41, 2) := by decide +kernel
theorem dX12_crop_29 : decode cX12_crop 29 = .ok (.iload_n 2, 1) := by decide +kernel
theorem dX12_crop_30 : decode cX12_crop 30 = .ok (.imul, 1) := by decide +kernel
theorem dX12_crop_31 : decode cX12_crop 31 = .ok (.iadd, 1) := by decide +kernel
theorem dX12_crop_32 : decode cX12_crop 32 = .ok (.iconst 1, 1) := by decide +kernel
theorem dX12_crop_33 : decode cX12_crop 33 = .ok (.iadd, 1) := by decide +kernel
theorem dX12_crop_34 : decode cX12_crop 34 = .ok (.iload_n 1, 1) := by decide +kernel
theorem dX12_crop_35 : decode cX12_crop 35 = .ok (.iadd, 1) := by decide +kernel
theorem dX12_crop_36 : decode cX12_crop 36 = .ok (.iaload, 1) := by decide +kernel
theorem dX12_crop_37 : decode cX12_crop 37 = .ok (.iconst 1, 1) := by decide +kernel
theorem dX12_crop_38 : decode cX12_crop 38 = .ok (.isub, 1) := by decide +kernel
theorem dX12_crop_39 : decode cX12_crop 39 = .ok (.goto 4, 3) := by decide +kernel
theorem dX12_end_0 : decode cX12_end 0 = .ok (.aload_n 0, 1) := by decide +kernel
theorem dX12_end_1 : decode cX12_end 1 = .ok (.iconst 0, 1) := by decide +kernel
theorem dX12_end_2 : decode cX12_end 2 = .ok (.putfield 82, 3) := by decide +kernel
theorem dX12_end_5 : decode cX12_end 5 = .ok (.iload_n 1, 1) := by decide +kernel
theorem dX12_end_6 : decode cX12_end 6 = .ok (.ifCond .lt 11, 3) := by decide +kernel
theorem dX12_end_17 : decode cX12_end 17 = .ok (.iconst (-1), 1) := by decide +kernel
theorem dX12_end_18 : decode cX12_end 18 = .ok (.ireturn, 1) := by decide +kernel
theorem dX12_end_9 : decode cX12_end 9 = .ok (.iload_n 1, 1) := by decide +kernel
theorem dX12_end_10 : decode cX12_end 10 = .ok (.aload_n 0, 1) := by decide +kernel
theorem dX12_end_11 : decode cX12_end 11 = .ok (.getfield 174, 3) := by decide +kernel
theorem dX12_end_14 : decode cX12_end 14 = .ok (.if_icmp .le 5, 3) := by decide +kernel
theorem dX12_end_19 : decode cX12_end 19 = .ok (.aload_n 0, 1) := by decide +kernel
theorem dX12_end_20 : decode cX12_end 20 = .ok (.iload_n 1, 1) := by decide +kernel
theorem dX12_end_21 : decode cX12_end 21 = .ok (.putfield 174, 3) := by decide +kernel
theorem dX12_end_24 : decode cX12_end 24 = .ok (.iload_n 1, 1) := by decide +kernel
theorem dX12_end_25 : decode cX12_end 25 = .ok (.ireturn, 1) := by decide +kernel
theorem dX12_fault_0 : decode cX12_fault 0 = .ok (.aload_n 0, 1) := by decide +kernel
theorem dX12_fault_1 : decode cX12_fault 1 = .ok (.iconst 0, 1) := by decide +kernel
theorem dX12_fault_2 : decode cX12_fault 2 = .ok (.putfield 82, 3) := by decide +kernel
theorem dX12_fault_5 : decode cX12_fault 5 = .ok (.aload_n 0, 1) := by decide +kernel
theorem dX12_fault_6 : decode cX12_fault 6 = .ok (.getfield 35, 3) := by decide +kernel
theorem dX12_fault_9 : decode cX12_fault 9 = .ok (.ireturn, 1) := by decide +kernel
theorem dX12_holdsAny_0 : decode cX12_holdsAny 0 = .ok (.iconst 0, 1) := by decide +kernel
theorem dX12_holdsAny_1 : decode cX12_holdsAny 1 = .ok (.istore_n 3, 1) := by decide +kernel
theorem dX12_holdsAny_2 : decode cX12_holdsAny 2 = .ok (.iconst 0, 1) := by decide +kernel
theorem dX12_holdsAny_3 : decode cX12_holdsAny 3 = .ok (.istore 4, 2) := by decide +kernel
theorem dX12_holdsAny_5 : decode cX12_holdsAny 5 = .ok (.iload 4, 2) := by decide +kernel
theorem dX12_holdsAny_7 : decode cX12_holdsAny 7 = .ok (.aload_n 0, 1) := by decide +kernel
theorem dX12_holdsAny_8 : decode cX12_holdsAny 8 = .ok (.getfield 8, 3) := by decide +kernel
theorem dX12_holdsAny_11 : decode cX12_holdsAny 11 = .ok (.iconst 2, 1) := by decide +kernel
theorem dX12_holdsAny_12 : decode cX12_holdsAny 12 = .ok (.iaload, 1) := by decide +kernel
theorem dX12_holdsAny_13 : decode cX12_holdsAny 13 = .ok (.if_icmp .ge 55, 3) := by decide +kernel
theorem dX12_holdsAny_68 : decode cX12_holdsAny 68 = .ok (.iload_n 3, 1) := by decide +kernel
theorem dX12_holdsAny_69 : decode cX12_holdsAny 69 = .ok (.ireturn, 1) := by decide +kernel
theorem dX12_holdsAny_16 : decode cX12_holdsAny 16 = .ok (.iload_n 3, 1) := by decide +kernel
theorem dX12_holdsAny_17 : decode cX12_holdsAny 17 = .ok (.ifCond .ne 39, 3) := by decide +kernel
theorem dX12_holdsAny_61 : decode cX12_holdsAny 61 = .ok (.istore_n 3, 1) := by decide +kernel
theorem dX12_holdsAny_62 : decode cX12_holdsAny 62 = .ok (.iinc 4 1, 3) := by decide +kernel
theorem dX12_holdsAny_65 : decode cX12_holdsAny 65 = .ok (.goto (-60), 3) := by decide +kernel
theorem dX12_holdsAny_56 : decode cX12_holdsAny 56 = .ok (.iconst 1, 1) := by decide +kernel
theorem dX12_holdsAny_57 : decode cX12_holdsAny 57 = .ok (.goto 4, 3) := by decide +kernel
theorem dX12_holdsAny_20 : decode cX12_holdsAny 20 = .ok (.aload_n 0, 1) := by decide +kernel
theorem dX12_holdsAny_21 : decode cX12_holdsAny 21 = .ok (.getfield 8, 3) := by decide +kernel
theorem dX12_holdsAny_24 : decode cX12_holdsAny 24 = .ok (.iload 4, 2) := by decide +kernel
theorem dX12_holdsAny_26 : decode cX12_holdsAny 26 = .ok (.invokestatic 135, 3) := by decide +kernel
theorem dX12_holdsAny_29 : decode cX12_holdsAny 29 = .ok (.iconst 3, 1) := by decide +kernel
theorem dX12_holdsAny_30 : decode cX12_holdsAny 30 = .ok (.iadd, 1) := by decide +kernel
theorem dX12_holdsAny_31 : decode cX12_holdsAny 31 = .ok (.iaload, 1) := by decide +kernel
theorem dX12_holdsAny_32 : decode cX12_holdsAny 32 = .ok (.iload_n 1, 1) := by decide +kernel
theorem dX12_holdsAny_33 : decode cX12_holdsAny 33 = .ok (.if_icmp .ne 27, 3) := by decide +kernel
theorem dX12_holdsAny_60 : decode cX12_holdsAny 60 = .ok (.iconst 0, 1) := by decide +kernel
theorem dX12_holdsAny_36 : decode cX12_holdsAny 36 = .ok (.iload_n 2, 1) := by decide +kernel
theorem dX12_holdsAny_37 : decode cX12_holdsAny 37 = .ok (.ifCond .eq 19, 3) := by decide +kernel
theorem dX12_holdsAny_40 : decode cX12_holdsAny 40 = .ok (.aload_n 0, 1) := by decide +kernel
theorem dX12_holdsAny_41 : decode cX12_holdsAny 41 = .ok (.getfield 8, 3) := by decide +kernel
theorem dX12_holdsAny_44 : decode cX12_holdsAny 44 = .ok (.iload 4, 2) := by decide +kernel
theorem dX12_holdsAny_46 : decode cX12_holdsAny 46 = .ok (.invokestatic 135, 3) := by decide +kernel
theorem dX12_holdsAny_49 : decode cX12_holdsAny 49 = .ok (.iconst 5, 1) := by decide +kernel
theorem dX12_holdsAny_50 : decode cX12_holdsAny 50 = .ok (.iadd, 1) := by decide +kernel
theorem dX12_holdsAny_51 : decode cX12_holdsAny 51 = .ok (.iaload, 1) := by decide +kernel
theorem dX12_holdsAny_52 : decode cX12_holdsAny 52 = .ok (.iconst 1, 1) := by decide +kernel
theorem dX12_holdsAny_53 : decode cX12_holdsAny 53 = .ok (.if_icmp .ne 7, 3) := by decide +kernel
theorem dX12_rentOf_0 : decode cX12_rentOf 0 = .ok (.aload_n 0, 1) := by decide +kernel
theorem dX12_rentOf_1 : decode cX12_rentOf 1 = .ok (.getfield 8, 3) := by decide +kernel
theorem dX12_rentOf_4 : decode cX12_rentOf 4 = .ok (.iload_n 1, 1) := by decide +kernel
theorem dX12_rentOf_5 : decode cX12_rentOf 5 = .ok (.invokestatic 135, 3) := by decide +kernel
theorem dX12_rentOf_8 : decode cX12_rentOf 8 = .ok (.iconst 2, 1) := by decide +kernel
theorem dX12_rentOf_9 : decode cX12_rentOf 9 = .ok (.iadd, 1) := by decide +kernel
theorem dX12_rentOf_10 : decode cX12_rentOf 10 = .ok (.iaload, 1) := by decide +kernel
theorem dX12_rentOf_11 : decode cX12_rentOf 11 = .ok (.ifCond .ge 7, 3) := by decide +kernel
theorem dX12_rentOf_29 : decode cX12_rentOf 29 = .ok (.ireturn, 1) := by decide +kernel
theorem dX12_rentOf_18 : decode cX12_rentOf 18 = .ok (.aload_n 0, 1) := by decide +kernel
theorem dX12_rentOf_19 : decode cX12_rentOf 19 = .ok (.getfield 8, 3) := by decide +kernel
theorem dX12_rentOf_22 : decode cX12_rentOf 22 = .ok (.iload_n 1, 1) := by decide +kernel
theorem dX12_rentOf_23 : decode cX12_rentOf 23 = .ok (.invokestatic 135, 3) := by decide +kernel
theorem dX12_rentOf_26 : decode cX12_rentOf 26 = .ok (.iconst 2, 1) := by decide +kernel
theorem dX12_rentOf_27 : decode cX12_rentOf 27 = .ok (.iadd, 1) := by decide +kernel
theorem dX12_rentOf_28 : decode cX12_rentOf 28 = .ok (.iaload, 1) := by decide +kernel
theorem dX12_rentOf_14 : decode cX12_rentOf 14 = .ok (.iconst 0, 1) := by decide +kernel
theorem dX12_rentOf_15 : decode cX12_rentOf 15 = .ok (.goto 14, 3) := by decide +kernel
theorem dX12_canWrit_0 : decode cX12_canWrit 0 = .ok (.aload_n 0, 1) := by decide +kernel
theorem dX12_canWrit_1 : decode cX12_canWrit 1 = .ok (.getfield 8, 3) := by decide +kernel
theorem dX12_canWrit_4 : decode cX12_canWrit 4 = .ok (.iload_n 1, 1) := by decide +kernel
theorem dX12_canWrit_5 : decode cX12_canWrit 5 = .ok (.invokestatic 135, 3) := by decide +kernel
theorem dX12_canWrit_8 : decode cX12_canWrit 8 = .ok (.iconst 3, 1) := by decide +kernel
theorem dX12_canWrit_9 : decode cX12_canWrit 9 = .ok (.iadd, 1) := by decide +kernel
theorem dX12_canWrit_10 : decode cX12_canWrit 10 = .ok (.iaload, 1) := by decide +kernel
theorem dX12_canWrit_11 : decode cX12_canWrit 11 = .ok (.iconst (-1), 1) := by decide +kernel
theorem dX12_canWrit_12 : decode cX12_canWrit 12 = .ok (.if_icmp .eq 30, 3) := by decide +kernel
theorem dX12_canWrit_43 : decode cX12_canWrit 43 = .ok (.ireturn, 1) := by decide +kernel
theorem dX12_canWrit_42 : decode cX12_canWrit 42 = .ok (.iconst 0, 1) := by decide +kernel
theorem dX12_canWrit_15 : decode cX12_canWrit 15 = .ok (.aload_n 0, 1) := by decide +kernel
theorem dX12_canWrit_16 : decode cX12_canWrit 16 = .ok (.getfield 8, 3) := by decide +kernel
theorem dX12_canWrit_19 : decode cX12_canWrit 19 = .ok (.iload_n 1, 1) := by decide +kernel
theorem dX12_canWrit_20 : decode cX12_canWrit 20 = .ok (.invokestatic 135, 3) := by decide +kernel
theorem dX12_canWrit_23 : decode cX12_canWrit 23 = .ok (.iconst 4, 1) := by decide +kernel
theorem dX12_canWrit_24 : decode cX12_canWrit 24 = .ok (.iadd, 1) := by decide +kernel
theorem dX12_canWrit_25 : decode cX12_canWrit 25 = .ok (.iaload, 1) := by decide +kernel
theorem dX12_canWrit_26 : decode cX12_canWrit 26 = .ok (.ifCond .le 16, 3) := by decide +kernel
theorem dX12_canWrit_29 : decode cX12_canWrit 29 = .ok (.aload_n 0, 1) := by decide +kernel
theorem dX12_canWrit_30 : decode cX12_canWrit 30 = .ok (.iload_n 1, 1) := by decide +kernel
theorem dX12_canWrit_31 : decode cX12_canWrit 31 = .ok (.invokevirtual 144, 3) := by decide +kernel
theorem dX12_canWrit_34 : decode cX12_canWrit 34 = .ok (.iconst (-1), 1) := by decide +kernel
theorem dX12_canWrit_35 : decode cX12_canWrit 35 = .ok (.if_icmp .ne 7, 3) := by decide +kernel
theorem dX12_canWrit_38 : decode cX12_canWrit 38 = .ok (.iconst 1, 1) := by decide +kernel
theorem dX12_canWrit_39 : decode cX12_canWrit 39 = .ok (.goto 4, 3) := by decide +kernel
theorem dX12_isGuarded_0 : decode cX12_isGuarded 0 = .ok (.iconst 0, 1) := by decide +kernel
theorem dX12_isGuarded_1 : decode cX12_isGuarded 1 = .ok (.istore_n 2, 1) := by decide +kernel
theorem dX12_isGuarded_2 : decode cX12_isGuarded 2 = .ok (.iconst 0, 1) := by decide +kernel
theorem dX12_isGuarded_3 : decode cX12_isGuarded 3 = .ok (.istore_n 3, 1) := by decide +kernel
theorem dX12_isGuarded_4 : decode cX12_isGuarded 4 = .ok (.iload_n 3, 1) := by decide +kernel
theorem dX12_isGuarded_5 : decode cX12_isGuarded 5 = .ok (.aload_n 0, 1) := by decide +kernel
theorem dX12_isGuarded_6 : decode cX12_isGuarded 6 = .ok (.getfield 8, 3) := by decide +kernel
theorem dX12_isGuarded_9 : decode cX12_isGuarded 9 = .ok (.bipush 7, 2) := by decide +kernel
theorem dX12_isGuarded_11 : decode cX12_isGuarded 11 = .ok (.iaload, 1) := by decide +kernel
theorem dX12_isGuarded_12 : decode cX12_isGuarded 12 = .ok (.if_icmp .ge 73, 3) := by decide +kernel
theorem dX12_isGuarded_85 : decode cX12_isGuarded 85 = .ok (.iload_n 2, 1) := by decide +kernel
theorem dX12_isGuarded_86 : decode cX12_isGuarded 86 = .ok (.ireturn, 1) := by decide +kernel
theorem dX12_isGuarded_15 : decode cX12_isGuarded 15 = .ok (.sipush 1044, 3) := by decide +kernel
theorem dX12_isGuarded_18 : decode cX12_isGuarded 18 = .ok (.iconst 3, 1) := by decide +kernel
theorem dX12_isGuarded_19 : decode cX12_isGuarded 19 = .ok (.iload_n 3, 1) := by decide +kernel
theorem dX12_isGuarded_20 : decode cX12_isGuarded 20 = .ok (.imul, 1) := by decide +kernel
theorem dX12_isGuarded_21 : decode cX12_isGuarded 21 = .ok (.iadd, 1) := by decide +kernel
theorem dX12_isGuarded_22 : decode cX12_isGuarded 22 = .ok (.istore 4, 2) := by decide +kernel
theorem dX12_isGuarded_24 : decode cX12_isGuarded 24 = .ok (.iload_n 2, 1) := by decide +kernel
theorem dX12_isGuarded_25 : decode cX12_isGuarded 25 = .ok (.ifCond .ne 48, 3) := by decide +kernel
theorem dX12_isGuarded_78 : decode cX12_isGuarded 78 = .ok (.istore_n 2, 1) := by decide +kernel
theorem dX12_isGuarded_79 : decode cX12_isGuarded 79 = .ok (.iinc 3 1, 3) := by decide +kernel
theorem dX12_isGuarded_82 : decode cX12_isGuarded 82 = .ok (.goto (-78), 3) := by decide +kernel
theorem dX12_isGuarded_73 : decode cX12_isGuarded 73 = .ok (.iconst 1, 1) := by decide +kernel
theorem dX12_isGuarded_74 : decode cX12_isGuarded 74 = .ok (.goto 4, 3) := by decide +kernel
theorem dX12_isGuarded_28 : decode cX12_isGuarded 28 = .ok (.aload_n 0, 1) := by decide +kernel
theorem dX12_isGuarded_29 : decode cX12_isGuarded 29 = .ok (.getfield 8, 3) := by decide +kernel
theorem dX12_isGuarded_32 : decode cX12_isGuarded 32 = .ok (.iload 4, 2) := by decide +kernel
theorem dX12_isGuarded_34 : decode cX12_isGuarded 34 = .ok (.iaload, 1) := by decide +kernel
theorem dX12_isGuarded_35 : decode cX12_isGuarded 35 = .ok (.iload_n 1, 1) := by decide +kernel
theorem dX12_isGuarded_36 : decode cX12_isGuarded 36 = .ok (.if_icmp .ne 41, 3) := by decide +kernel
theorem dX12_isGuarded_77 : decode cX12_isGuarded 77 = .ok (.iconst 0, 1) := by decide +kernel
theorem dX12_isGuarded_39 : decode cX12_isGuarded 39 = .ok (.aload_n 0, 1) := by decide +kernel
theorem dX12_isGuarded_40 : decode cX12_isGuarded 40 = .ok (.getfield 8, 3) := by decide +kernel
theorem dX12_isGuarded_43 : decode cX12_isGuarded 43 = .ok (.bipush 8, 2) := by decide +kernel
theorem dX12_isGuarded_45 : decode cX12_isGuarded 45 = .ok (.iaload, 1) := by decide +kernel
theorem dX12_isGuarded_46 : decode cX12_isGuarded 46 = .ok (.i2l, 1) := by decide +kernel
theorem dX12_isGuarded_47 : decode cX12_isGuarded 47 = .ok (.aload_n 0, 1) := by decide +kernel
theorem dX12_isGuarded_48 : decode cX12_isGuarded 48 = .ok (.getfield 8, 3) := by decide +kernel
theorem dX12_isGuarded_51 : decode cX12_isGuarded 51 = .ok (.iload 4, 2) := by decide +kernel
theorem dX12_isGuarded_53 : decode cX12_isGuarded 53 = .ok (.iconst 1, 1) := by decide +kernel
theorem dX12_isGuarded_54 : decode cX12_isGuarded 54 = .ok (.iadd, 1) := by decide +kernel
theorem dX12_isGuarded_55 : decode cX12_isGuarded 55 = .ok (.iaload, 1) := by decide +kernel
theorem dX12_isGuarded_56 : decode cX12_isGuarded 56 = .ok (.i2l, 1) := by decide +kernel
theorem dX12_isGuarded_57 : decode cX12_isGuarded 57 = .ok (.aload_n 0, 1) := by decide +kernel
theorem dX12_isGuarded_58 : decode cX12_isGuarded 58 = .ok (.getfield 8, 3) := by decide +kernel
theorem dX12_isGuarded_61 : decode cX12_isGuarded 61 = .ok (.iload 4, 2) := by decide +kernel
theorem dX12_isGuarded_63 : decode cX12_isGuarded 63 = .ok (.iconst 2, 1) := by decide +kernel
theorem dX12_isGuarded_64 : decode cX12_isGuarded 64 = .ok (.iadd, 1) := by decide +kernel
theorem dX12_isGuarded_65 : decode cX12_isGuarded 65 = .ok (.iaload, 1) := by decide +kernel
theorem dX12_isGuarded_66 : decode cX12_isGuarded 66 = .ok (.i2l, 1) := by decide +kernel
theorem dX12_isGuarded_67 : decode cX12_isGuarded 67 = .ok (.invokestatic 90, 3) := by decide +kernel
theorem dX12_isGuarded_70 : decode cX12_isGuarded 70 = .ok (.ifCond .eq 7, 3) := by decide +kernel
theorem dX12_avoid_0 : decode cX12_avoid 0 = .ok (.aload_n 0, 1) := by decide +kernel
theorem dX12_avoid_1 : decode cX12_avoid 1 = .ok (.iconst 0, 1) := by decide +kernel
theorem dX12_avoid_2 : decode cX12_avoid 2 = .ok (.putfield 82, 3) := by decide +kernel
theorem dX12_avoid_5 : decode cX12_avoid 5 = .ok (.aload_n 0, 1) := by decide +kernel
theorem dX12_avoid_6 : decode cX12_avoid 6 = .ok (.iload_n 1, 1) := by decide +kernel
theorem dX12_avoid_7 : decode cX12_avoid 7 = .ok (.invokevirtual 141, 3) := by decide +kernel
theorem dX12_avoid_10 : decode cX12_avoid 10 = .ok (.ifCond .ne 10, 3) := by decide +kernel
theorem dX12_avoid_20 : decode cX12_avoid 20 = .ok (.aload_n 0, 1) := by decide +kernel
theorem dX12_avoid_21 : decode cX12_avoid 21 = .ok (.iload_n 1, 1) := by decide +kernel
theorem dX12_avoid_22 : decode cX12_avoid 22 = .ok (.invokevirtual 144, 3) := by decide +kernel
theorem dX12_avoid_25 : decode cX12_avoid 25 = .ok (.istore_n 2, 1) := by decide +kernel
theorem dX12_avoid_26 : decode cX12_avoid 26 = .ok (.iload_n 2, 1) := by decide +kernel
theorem dX12_avoid_27 : decode cX12_avoid 27 = .ok (.iconst (-1), 1) := by decide +kernel
theorem dX12_avoid_28 : decode cX12_avoid 28 = .ok (.if_icmp .ne 10, 3) := by decide +kernel
theorem dX12_avoid_38 : decode cX12_avoid 38 = .ok (.aload_n 0, 1) := by decide +kernel
theorem dX12_avoid_39 : decode cX12_avoid 39 = .ok (.getfield 8, 3) := by decide +kernel
theorem dX12_avoid_42 : decode cX12_avoid 42 = .ok (.sipush 684, 3) := by decide +kernel
theorem dX12_avoid_45 : decode cX12_avoid 45 = .ok (.bipush 6, 2) := by decide +kernel
theorem dX12_avoid_47 : decode cX12_avoid 47 = .ok (.iload_n 2, 1) := by decide +kernel
theorem dX12_avoid_48 : decode cX12_avoid 48 = .ok (.imul, 1) := by decide +kernel
theorem dX12_avoid_49 : decode cX12_avoid 49 = .ok (.iadd, 1) := by decide +kernel
theorem dX12_avoid_50 : decode cX12_avoid 50 = .ok (.iconst 5, 1) := by decide +kernel
theorem dX12_avoid_51 : decode cX12_avoid 51 = .ok (.iadd, 1) := by decide +kernel
theorem dX12_avoid_52 : decode cX12_avoid 52 = .ok (.iconst 1, 1) := by decide +kernel
theorem dX12_avoid_53 : decode cX12_avoid 53 = .ok (.iastore, 1) := by decide +kernel
theorem dX12_avoid_54 : decode cX12_avoid 54 = .ok (.aload_n 0, 1) := by decide +kernel
theorem dX12_avoid_55 : decode cX12_avoid 55 = .ok (.iconst 0, 1) := by decide +kernel
theorem dX12_avoid_56 : decode cX12_avoid 56 = .ok (.invokevirtual 94, 3) := by decide +kernel
theorem dX12_avoid_59 : decode cX12_avoid 59 = .ok (.ireturn, 1) := by decide +kernel
theorem dX12_avoid_31 : decode cX12_avoid 31 = .ok (.aload_n 0, 1) := by decide +kernel
theorem dX12_avoid_32 : decode cX12_avoid 32 = .ok (.bipush (-3), 2) := by decide +kernel
theorem dX12_avoid_34 : decode cX12_avoid 34 = .ok (.invokevirtual 94, 3) := by decide +kernel
theorem dX12_avoid_37 : decode cX12_avoid 37 = .ok (.ireturn, 1) := by decide +kernel
theorem dX12_avoid_13 : decode cX12_avoid 13 = .ok (.aload_n 0, 1) := by decide +kernel
theorem dX12_avoid_14 : decode cX12_avoid 14 = .ok (.bipush (-2), 2) := by decide +kernel
theorem dX12_avoid_16 : decode cX12_avoid 16 = .ok (.invokevirtual 94, 3) := by decide +kernel
theorem dX12_avoid_19 : decode cX12_avoid 19 = .ok (.ireturn, 1) := by decide +kernel
theorem dX12_guard_0 : decode cX12_guard 0 = .ok (.aload_n 0, 1) := by decide +kernel
theorem dX12_guard_1 : decode cX12_guard 1 = .ok (.iconst 0, 1) := by decide +kernel
theorem dX12_guard_2 : decode cX12_guard 2 = .ok (.putfield 82, 3) := by decide +kernel
theorem dX12_guard_5 : decode cX12_guard 5 = .ok (.iload_n 3, 1) := by decide +kernel
theorem dX12_guard_6 : decode cX12_guard 6 = .ok (.invokestatic 156, 3) := by decide +kernel
theorem dX12_guard_9 : decode cX12_guard 9 = .ok (.ifCond .eq 14, 3) := by decide +kernel
theorem dX12_guard_23 : decode cX12_guard 23 = .ok (.aload_n 0, 1) := by decide +kernel
theorem dX12_guard_24 : decode cX12_guard 24 = .ok (.iconst (-1), 1) := by decide +kernel
theorem dX12_guard_25 : decode cX12_guard 25 = .ok (.invokevirtual 94, 3) := by decide +kernel
theorem dX12_guard_28 : decode cX12_guard 28 = .ok (.ireturn, 1) := by decide +kernel
theorem dX12_guard_12 : decode cX12_guard 12 = .ok (.iload_n 2, 1) := by decide +kernel
theorem dX12_guard_13 : decode cX12_guard 13 = .ok (.i2l, 1) := by decide +kernel
theorem dX12_guard_14 : decode cX12_guard 14 = .ok (.lconst 0, 1) := by decide +kernel
theorem dX12_guard_15 : decode cX12_guard 15 = .ok (.iload_n 3, 1) := by decide +kernel
theorem dX12_guard_16 : decode cX12_guard 16 = .ok (.i2l, 1) := by decide +kernel
theorem dX12_guard_17 : decode cX12_guard 17 = .ok (.invokestatic 90, 3) := by decide +kernel
theorem dX12_guard_20 : decode cX12_guard 20 = .ok (.ifCond .ne 9, 3) := by decide +kernel
theorem dX12_guard_29 : decode cX12_guard 29 = .ok (.aload_n 0, 1) := by decide +kernel
theorem dX12_guard_30 : decode cX12_guard 30 = .ok (.iload_n 1, 1) := by decide +kernel
theorem dX12_guard_31 : decode cX12_guard 31 = .ok (.invokevirtual 141, 3) := by decide +kernel
theorem dX12_guard_34 : decode cX12_guard 34 = .ok (.ifCond .ne 10, 3) := by decide +kernel
theorem dX12_guard_44 : decode cX12_guard 44 = .ok (.aload_n 0, 1) := by decide +kernel
theorem dX12_guard_45 : decode cX12_guard 45 = .ok (.getfield 8, 3) := by decide +kernel
theorem dX12_guard_48 : decode cX12_guard 48 = .ok (.bipush 7, 2) := by decide +kernel
theorem dX12_guard_50 : decode cX12_guard 50 = .ok (.iaload, 1) := by decide +kernel
theorem dX12_guard_51 : decode cX12_guard 51 = .ok (.bipush 40, 2) := by decide +kernel
theorem dX12_guard_53 : decode cX12_guard 53 = .ok (.if_icmp .ne 10, 3) := by decide +kernel
theorem dX12_guard_63 : decode cX12_guard 63 = .ok (.sipush 1044, 3) := by decide +kernel
theorem dX12_guard_66 : decode cX12_guard 66 = .ok (.iconst 3, 1) := by decide +kernel
theorem dX12_guard_67 : decode cX12_guard 67 = .ok (.aload_n 0, 1) := by decide +kernel
theorem dX12_guard_68 : decode cX12_guard 68 = .ok (.getfield 8, 3) := by decide +kernel
theorem dX12_guard_71 : decode cX12_guard 71 = .ok (.bipush 7, 2) := by decide +kernel
theorem dX12_guard_73 : decode cX12_guard 73 = .ok (.iaload, 1) := by decide +kernel
theorem dX12_guard_74 : decode cX12_guard 74 = .ok (.imul, 1) := by decide +kernel
theorem dX12_guard_75 : decode cX12_guard 75 = .ok (.iadd, 1) := by decide +kernel
theorem dX12_guard_76 : decode cX12_guard 76 = .ok (.istore 4, 2) := by decide +kernel
theorem dX12_guard_78 : decode cX12_guard 78 = .ok (.aload_n 0, 1) := by decide +kernel
theorem dX12_guard_79 : decode cX12_guard 79 = .ok (.getfield 8, 3) := by decide +kernel
theorem dX12_guard_82 : decode cX12_guard 82 = .ok (.iload 4, 2) := by decide +kernel
theorem dX12_guard_84 : decode cX12_guard 84 = .ok (.iload_n 1, 1) := by decide +kernel
theorem dX12_guard_85 : decode cX12_guard 85 = .ok (.iastore, 1) := by decide +kernel
theorem dX12_guard_86 : decode cX12_guard 86 = .ok (.aload_n 0, 1) := by decide +kernel
theorem dX12_guard_87 : decode cX12_guard 87 = .ok (.getfield 8, 3) := by decide +kernel
theorem dX12_guard_90 : decode cX12_guard 90 = .ok (.iload 4, 2) := by decide +kernel
theorem dX12_guard_92 : decode cX12_guard 92 = .ok (.iconst 1, 1) := by decide +kernel
theorem dX12_guard_93 : decode cX12_guard 93 = .ok (.iadd, 1) := by decide +kernel
theorem dX12_guard_94 : decode cX12_guard 94 = .ok (.iload_n 2, 1) := by decide +kernel
theorem dX12_guard_95 : decode cX12_guard 95 = .ok (.iastore, 1) := by decide +kernel
theorem dX12_guard_96 : decode cX12_guard 96 = .ok (.aload_n 0, 1) := by decide +kernel
theorem dX12_guard_97 : decode cX12_guard 97 = .ok (.getfield 8, 3) := by decide +kernel
theorem dX12_guard_100 : decode cX12_guard 100 = .ok (.iload 4, 2) := by decide +kernel
theorem dX12_guard_102 : decode cX12_guard 102 = .ok (.iconst 2, 1) := by decide +kernel
theorem dX12_guard_103 : decode cX12_guard 103 = .ok (.iadd, 1) := by decide +kernel
theorem dX12_guard_104 : decode cX12_guard 104 = .ok (.iload_n 3, 1) := by decide +kernel
theorem dX12_guard_105 : decode cX12_guard 105 = .ok (.iastore, 1) := by decide +kernel
theorem dX12_guard_106 : decode cX12_guard 106 = .ok (.aload_n 0, 1) := by decide +kernel
theorem dX12_guard_107 : decode cX12_guard 107 = .ok (.getfield 8, 3) := by decide +kernel
theorem dX12_guard_110 : decode cX12_guard 110 = .ok (.bipush 7, 2) := by decide +kernel
theorem dX12_guard_112 : decode cX12_guard 112 = .ok (.dup2, 1) := by decide +kernel
theorem dX12_guard_113 : decode cX12_guard 113 = .ok (.iaload, 1) := by decide +kernel
theorem dX12_guard_114 : decode cX12_guard 114 = .ok (.iconst 1, 1) := by decide +kernel
theorem dX12_guard_115 : decode cX12_guard 115 = .ok (.iadd, 1) := by decide +kernel
theorem dX12_guard_116 : decode cX12_guard 116 = .ok (.iastore, 1) := by decide +kernel
theorem dX12_guard_117 : decode cX12_guard 117 = .ok (.aload_n 0, 1) := by decide +kernel
theorem dX12_guard_118 : decode cX12_guard 118 = .ok (.aload_n 0, 1) := by decide +kernel
theorem dX12_guard_119 : decode cX12_guard 119 = .ok (.getfield 8, 3) := by decide +kernel
theorem dX12_guard_122 : decode cX12_guard 122 = .ok (.bipush 7, 2) := by decide +kernel
theorem dX12_guard_124 : decode cX12_guard 124 = .ok (.iaload, 1) := by decide +kernel
theorem dX12_guard_125 : decode cX12_guard 125 = .ok (.invokevirtual 94, 3) := by decide +kernel
theorem dX12_guard_128 : decode cX12_guard 128 = .ok (.ireturn, 1) := by decide +kernel
theorem dX12_guard_56 : decode cX12_guard 56 = .ok (.aload_n 0, 1) := by decide +kernel
theorem dX12_guard_57 : decode cX12_guard 57 = .ok (.bipush (-5), 2) := by decide +kernel
theorem dX12_guard_59 : decode cX12_guard 59 = .ok (.invokevirtual 94, 3) := by decide +kernel
theorem dX12_guard_62 : decode cX12_guard 62 = .ok (.ireturn, 1) := by decide +kernel
theorem dX12_guard_37 : decode cX12_guard 37 = .ok (.aload_n 0, 1) := by decide +kernel
theorem dX12_guard_38 : decode cX12_guard 38 = .ok (.bipush (-2), 2) := by decide +kernel
theorem dX12_guard_40 : decode cX12_guard 40 = .ok (.invokevirtual 94, 3) := by decide +kernel
theorem dX12_guard_43 : decode cX12_guard 43 = .ok (.ireturn, 1) := by decide +kernel
theorem dX12_keepsBan_0 : decode cX12_keepsBan 0 = .ok (.aload_n 0, 1) := by decide +kernel
theorem dX12_keepsBan_1 : decode cX12_keepsBan 1 = .ok (.getfield 8, 3) := by decide +kernel
theorem dX12_keepsBan_4 : decode cX12_keepsBan 4 = .ok (.iload_n 1, 1) := by decide +kernel
theorem dX12_keepsBan_5 : decode cX12_keepsBan 5 = .ok (.invokestatic 104, 3) := by decide +kernel
theorem dX12_keepsBan_8 : decode cX12_keepsBan 8 = .ok (.iaload, 1) := by decide +kernel
theorem dX12_keepsBan_9 : decode cX12_keepsBan 9 = .ok (.aload_n 0, 1) := by decide +kernel
theorem dX12_keepsBan_10 : decode cX12_keepsBan 10 = .ok (.getfield 8, 3) := by decide +kernel
theorem dX12_keepsBan_13 : decode cX12_keepsBan 13 = .ok (.iload_n 2, 1) := by decide +kernel
theorem dX12_keepsBan_14 : decode cX12_keepsBan 14 = .ok (.invokestatic 104, 3) := by decide +kernel
theorem dX12_keepsBan_17 : decode cX12_keepsBan 17 = .ok (.iaload, 1) := by decide +kernel
theorem dX12_keepsBan_18 : decode cX12_keepsBan 18 = .ok (.if_icmp .ne 5, 3) := by decide +kernel
theorem dX12_keepsBan_23 : decode cX12_keepsBan 23 = .ok (.iload_n 1, 1) := by decide +kernel
theorem dX12_keepsBan_24 : decode cX12_keepsBan 24 = .ok (.istore_n 3, 1) := by decide +kernel
theorem dX12_keepsBan_25 : decode cX12_keepsBan 25 = .ok (.iconst 0, 1) := by decide +kernel
theorem dX12_keepsBan_26 : decode cX12_keepsBan 26 = .ok (.istore 4, 2) := by decide +kernel
theorem dX12_keepsBan_28 : decode cX12_keepsBan 28 = .ok (.iload 4, 2) := by decide +kernel
theorem dX12_keepsBan_30 : decode cX12_keepsBan 30 = .ok (.bipush 40, 2) := by decide +kernel
theorem dX12_keepsBan_32 : decode cX12_keepsBan 32 = .ok (.if_icmp .gt 49, 3) := by decide +kernel
theorem dX12_keepsBan_81 : decode cX12_keepsBan 81 = .ok (.iconst 0, 1) := by decide +kernel
theorem dX12_keepsBan_82 : decode cX12_keepsBan 82 = .ok (.ireturn, 1) := by decide +kernel
theorem dX12_keepsBan_35 : decode cX12_keepsBan 35 = .ok (.iload_n 3, 1) := by decide +kernel
theorem dX12_keepsBan_36 : decode cX12_keepsBan 36 = .ok (.iconst (-1), 1) := by decide +kernel
theorem dX12_keepsBan_37 : decode cX12_keepsBan 37 = .ok (.if_icmp .eq 44, 3) := by decide +kernel
theorem dX12_keepsBan_40 : decode cX12_keepsBan 40 = .ok (.aload_n 0, 1) := by decide +kernel
theorem dX12_keepsBan_41 : decode cX12_keepsBan 41 = .ok (.getfield 8, 3) := by decide +kernel
theorem dX12_keepsBan_44 : decode cX12_keepsBan 44 = .ok (.iload_n 3, 1) := by decide +kernel
theorem dX12_keepsBan_45 : decode cX12_keepsBan 45 = .ok (.invokestatic 104, 3) := by decide +kernel
theorem dX12_keepsBan_48 : decode cX12_keepsBan 48 = .ok (.iconst 2, 1) := by decide +kernel
theorem dX12_keepsBan_49 : decode cX12_keepsBan 49 = .ok (.iadd, 1) := by decide +kernel
theorem dX12_keepsBan_50 : decode cX12_keepsBan 50 = .ok (.iaload, 1) := by decide +kernel
theorem dX12_keepsBan_51 : decode cX12_keepsBan 51 = .ok (.aload_n 0, 1) := by decide +kernel
theorem dX12_keepsBan_52 : decode cX12_keepsBan 52 = .ok (.getfield 8, 3) := by decide +kernel
theorem dX12_keepsBan_55 : decode cX12_keepsBan 55 = .ok (.bipush 10, 2) := by decide +kernel
theorem dX12_keepsBan_57 : decode cX12_keepsBan 57 = .ok (.iaload, 1) := by decide +kernel
theorem dX12_keepsBan_58 : decode cX12_keepsBan 58 = .ok (.if_icmp .lt 5, 3) := by decide +kernel
theorem dX12_keepsBan_63 : decode cX12_keepsBan 63 = .ok (.aload_n 0, 1) := by decide +kernel
theorem dX12_keepsBan_64 : decode cX12_keepsBan 64 = .ok (.getfield 8, 3) := by decide +kernel
theorem dX12_keepsBan_67 : decode cX12_keepsBan 67 = .ok (.iload_n 3, 1) := by decide +kernel
theorem dX12_keepsBan_68 : decode cX12_keepsBan 68 = .ok (.invokestatic 104, 3) := by decide +kernel
theorem dX12_keepsBan_71 : decode cX12_keepsBan 71 = .ok (.iconst 3, 1) := by decide +kernel
theorem dX12_keepsBan_72 : decode cX12_keepsBan 72 = .ok (.iadd, 1) := by decide +kernel
theorem dX12_keepsBan_73 : decode cX12_keepsBan 73 = .ok (.iaload, 1) := by decide +kernel
theorem dX12_keepsBan_74 : decode cX12_keepsBan 74 = .ok (.istore_n 3, 1) := by decide +kernel
theorem dX12_keepsBan_75 : decode cX12_keepsBan 75 = .ok (.iinc 4 1, 3) := by decide +kernel
theorem dX12_keepsBan_78 : decode cX12_keepsBan 78 = .ok (.goto (-50), 3) := by decide +kernel
theorem dX12_keepsBan_61 : decode cX12_keepsBan 61 = .ok (.iconst 1, 1) := by decide +kernel
theorem dX12_keepsBan_62 : decode cX12_keepsBan 62 = .ok (.ireturn, 1) := by decide +kernel
theorem dX12_keepsBan_21 : decode cX12_keepsBan 21 = .ok (.iconst 0, 1) := by decide +kernel
theorem dX12_keepsBan_22 : decode cX12_keepsBan 22 = .ok (.ireturn, 1) := by decide +kernel
theorem dX12_isAbout_0 : decode cX12_isAbout 0 = .ok (.aload_n 0, 1) := by decide +kernel
theorem dX12_isAbout_1 : decode cX12_isAbout 1 = .ok (.getfield 8, 3) := by decide +kernel
theorem dX12_isAbout_4 : decode cX12_isAbout 4 = .ok (.iload_n 1, 1) := by decide +kernel
theorem dX12_isAbout_5 : decode cX12_isAbout 5 = .ok (.invokestatic 104, 3) := by decide +kernel
theorem dX12_isAbout_8 : decode cX12_isAbout 8 = .ok (.iconst 5, 1) := by decide +kernel
theorem dX12_isAbout_9 : decode cX12_isAbout 9 = .ok (.iadd, 1) := by decide +kernel
theorem dX12_isAbout_10 : decode cX12_isAbout 10 = .ok (.iaload, 1) := by decide +kernel
theorem dX12_isAbout_11 : decode cX12_isAbout 11 = .ok (.iconst 2, 1) := by decide +kernel
theorem dX12_isAbout_12 : decode cX12_isAbout 12 = .ok (.if_icmp .ge 7, 3) := by decide +kernel
theorem dX12_isAbout_20 : decode cX12_isAbout 20 = .ok (.ireturn, 1) := by decide +kernel
theorem dX12_isAbout_19 : decode cX12_isAbout 19 = .ok (.iconst 0, 1) := by decide +kernel
theorem dX12_isAbout_15 : decode cX12_isAbout 15 = .ok (.iconst 1, 1) := by decide +kernel
theorem dX12_isAbout_16 : decode cX12_isAbout 16 = .ok (.goto 4, 3) := by decide +kernel
theorem dX12_deal_0 : decode cX12_deal 0 = .ok (.aload_n 0, 1) := by decide +kernel
theorem dX12_deal_1 : decode cX12_deal 1 = .ok (.iconst 0, 1) := by decide +kernel
theorem dX12_deal_2 : decode cX12_deal 2 = .ok (.putfield 82, 3) := by decide +kernel
theorem dX12_deal_5 : decode cX12_deal 5 = .ok (.iload_n 3, 1) := by decide +kernel
theorem dX12_deal_6 : decode cX12_deal 6 = .ok (.i2l, 1) := by decide +kernel
theorem dX12_deal_7 : decode cX12_deal 7 = .ok (.lconst 1, 1) := by decide +kernel
theorem dX12_deal_8 : decode cX12_deal 8 = .ok (.ldc2_w 159, 3) := by decide +kernel
theorem dX12_deal_11 : decode cX12_deal 11 = .ok (.invokestatic 90, 3) := by decide +kernel
theorem dX12_deal_14 : decode cX12_deal 14 = .ok (.ifCond .ne 9, 3) := by decide +kernel
theorem dX12_deal_23 : decode cX12_deal 23 = .ok (.aload_n 0, 1) := by decide +kernel
theorem dX12_deal_24 : decode cX12_deal 24 = .ok (.iload_n 1, 1) := by decide +kernel
theorem dX12_deal_25 : decode cX12_deal 25 = .ok (.invokevirtual 111, 3) := by decide +kernel
theorem dX12_deal_28 : decode cX12_deal 28 = .ok (.ifCond .eq 11, 3) := by decide +kernel
theorem dX12_deal_39 : decode cX12_deal 39 = .ok (.aload_n 0, 1) := by decide +kernel
theorem dX12_deal_40 : decode cX12_deal 40 = .ok (.bipush (-2), 2) := by decide +kernel
theorem dX12_deal_42 : decode cX12_deal 42 = .ok (.invokevirtual 94, 3) := by decide +kernel
theorem dX12_deal_45 : decode cX12_deal 45 = .ok (.ireturn, 1) := by decide +kernel
theorem dX12_deal_31 : decode cX12_deal 31 = .ok (.aload_n 0, 1) := by decide +kernel
theorem dX12_deal_32 : decode cX12_deal 32 = .ok (.iload_n 2, 1) := by decide +kernel
theorem dX12_deal_33 : decode cX12_deal 33 = .ok (.invokevirtual 111, 3) := by decide +kernel
theorem dX12_deal_36 : decode cX12_deal 36 = .ok (.ifCond .ne 10, 3) := by decide +kernel
theorem dX12_deal_46 : decode cX12_deal 46 = .ok (.iload_n 2, 1) := by decide +kernel
theorem dX12_deal_47 : decode cX12_deal 47 = .ok (.invokestatic 104, 3) := by decide +kernel
theorem dX12_deal_50 : decode cX12_deal 50 = .ok (.istore 4, 2) := by decide +kernel
theorem dX12_deal_52 : decode cX12_deal 52 = .ok (.iload_n 1, 1) := by decide +kernel
theorem dX12_deal_53 : decode cX12_deal 53 = .ok (.iload_n 2, 1) := by decide +kernel
theorem dX12_deal_54 : decode cX12_deal 54 = .ok (.if_icmp .eq 36, 3) := by decide +kernel
theorem dX12_deal_91 : decode cX12_deal 91 = .ok (.istore 5, 2) := by decide +kernel
theorem dX12_deal_93 : decode cX12_deal 93 = .ok (.iload 5, 2) := by decide +kernel
theorem dX12_deal_95 : decode cX12_deal 95 = .ok (.ifCond .eq 26, 3) := by decide +kernel
theorem dX12_deal_121 : decode cX12_deal 121 = .ok (.aload_n 0, 1) := by decide +kernel
theorem dX12_deal_122 : decode cX12_deal 122 = .ok (.bipush (-3), 2) := by decide +kernel
theorem dX12_deal_124 : decode cX12_deal 124 = .ok (.invokevirtual 94, 3) := by decide +kernel
theorem dX12_deal_127 : decode cX12_deal 127 = .ok (.ireturn, 1) := by decide +kernel
theorem dX12_deal_98 : decode cX12_deal 98 = .ok (.aload_n 0, 1) := by decide +kernel
theorem dX12_deal_99 : decode cX12_deal 99 = .ok (.getfield 8, 3) := by decide +kernel
theorem dX12_deal_102 : decode cX12_deal 102 = .ok (.iload 4, 2) := by decide +kernel
theorem dX12_deal_104 : decode cX12_deal 104 = .ok (.bipush 6, 2) := by decide +kernel
theorem dX12_deal_106 : decode cX12_deal 106 = .ok (.iadd, 1) := by decide +kernel
theorem dX12_deal_107 : decode cX12_deal 107 = .ok (.iaload, 1) := by decide +kernel
theorem dX12_deal_108 : decode cX12_deal 108 = .ok (.iconst 1, 1) := by decide +kernel
theorem dX12_deal_109 : decode cX12_deal 109 = .ok (.if_icmp .ne 19, 3) := by decide +kernel
theorem dX12_deal_128 : decode cX12_deal 128 = .ok (.aload_n 0, 1) := by decide +kernel
theorem dX12_deal_129 : decode cX12_deal 129 = .ok (.getfield 8, 3) := by decide +kernel
theorem dX12_deal_132 : decode cX12_deal 132 = .ok (.iconst 5, 1) := by decide +kernel
theorem dX12_deal_133 : decode cX12_deal 133 = .ok (.iaload, 1) := by decide +kernel
theorem dX12_deal_134 : decode cX12_deal 134 = .ok (.sipush 200, 3) := by decide +kernel
theorem dX12_deal_137 : decode cX12_deal 137 = .ok (.if_icmp .ne 10, 3) := by decide +kernel
theorem dX12_deal_147 : decode cX12_deal 147 = .ok (.aload_n 0, 1) := by decide +kernel
theorem dX12_deal_148 : decode cX12_deal 148 = .ok (.getfield 8, 3) := by decide +kernel
theorem dX12_deal_151 : decode cX12_deal 151 = .ok (.iload 4, 2) := by decide +kernel
theorem dX12_deal_153 : decode cX12_deal 153 = .ok (.iconst 1, 1) := by decide +kernel
theorem dX12_deal_154 : decode cX12_deal 154 = .ok (.iadd, 1) := by decide +kernel
theorem dX12_deal_155 : decode cX12_deal 155 = .ok (.dup2, 1) := by decide +kernel
theorem dX12_deal_156 : decode cX12_deal 156 = .ok (.iaload, 1) := by decide +kernel
theorem dX12_deal_157 : decode cX12_deal 157 = .ok (.iload_n 3, 1) := by decide +kernel
theorem dX12_deal_158 : decode cX12_deal 158 = .ok (.isub, 1) := by decide +kernel
theorem dX12_deal_159 : decode cX12_deal 159 = .ok (.iastore, 1) := by decide +kernel
theorem dX12_deal_160 : decode cX12_deal 160 = .ok (.aload_n 0, 1) := by decide +kernel
theorem dX12_deal_161 : decode cX12_deal 161 = .ok (.iload_n 1, 1) := by decide +kernel
theorem dX12_deal_162 : decode cX12_deal 162 = .ok (.iload_n 3, 1) := by decide +kernel
theorem dX12_deal_163 : decode cX12_deal 163 = .ok (.i2l, 1) := by decide +kernel
theorem dX12_deal_164 : decode cX12_deal 164 = .ok (.invokevirtual 117, 3) := by decide +kernel
theorem dX12_deal_167 : decode cX12_deal 167 = .ok (.aload_n 0, 1) := by decide +kernel
theorem dX12_deal_168 : decode cX12_deal 168 = .ok (.getfield 8, 3) := by decide +kernel
theorem dX12_deal_171 : decode cX12_deal 171 = .ok (.iconst 5, 1) := by decide +kernel
theorem dX12_deal_172 : decode cX12_deal 172 = .ok (.dup2, 1) := by decide +kernel
theorem dX12_deal_173 : decode cX12_deal 173 = .ok (.iaload, 1) := by decide +kernel
theorem dX12_deal_174 : decode cX12_deal 174 = .ok (.iconst 1, 1) := by decide +kernel
theorem dX12_deal_175 : decode cX12_deal 175 = .ok (.iadd, 1) := by decide +kernel
theorem dX12_deal_176 : decode cX12_deal 176 = .ok (.iastore, 1) := by decide +kernel
theorem dX12_deal_177 : decode cX12_deal 177 = .ok (.aload_n 0, 1) := by decide +kernel
theorem dX12_deal_178 : decode cX12_deal 178 = .ok (.aload_n 0, 1) := by decide +kernel
theorem dX12_deal_179 : decode cX12_deal 179 = .ok (.getfield 8, 3) := by decide +kernel
theorem dX12_deal_182 : decode cX12_deal 182 = .ok (.iconst 5, 1) := by decide +kernel
theorem dX12_deal_183 : decode cX12_deal 183 = .ok (.iaload, 1) := by decide +kernel
theorem dX12_deal_184 : decode cX12_deal 184 = .ok (.invokevirtual 94, 3) := by decide +kernel
theorem dX12_deal_187 : decode cX12_deal 187 = .ok (.ireturn, 1) := by decide +kernel
theorem dX12_deal_140 : decode cX12_deal 140 = .ok (.aload_n 0, 1) := by decide +kernel
theorem dX12_deal_141 : decode cX12_deal 141 = .ok (.bipush (-5), 2) := by decide +kernel
theorem dX12_deal_143 : decode cX12_deal 143 = .ok (.invokevirtual 94, 3) := by decide +kernel
theorem dX12_deal_146 : decode cX12_deal 146 = .ok (.ireturn, 1) := by decide +kernel
theorem dX12_deal_112 : decode cX12_deal 112 = .ok (.aload_n 0, 1) := by decide +kernel
theorem dX12_deal_113 : decode cX12_deal 113 = .ok (.iload_n 1, 1) := by decide +kernel
theorem dX12_deal_114 : decode cX12_deal 114 = .ok (.iload_n 2, 1) := by decide +kernel
theorem dX12_deal_115 : decode cX12_deal 115 = .ok (.invokevirtual 487, 3) := by decide +kernel
theorem dX12_deal_118 : decode cX12_deal 118 = .ok (.ifCond .eq 10, 3) := by decide +kernel
theorem dX12_deal_90 : decode cX12_deal 90 = .ok (.iconst 0, 1) := by decide +kernel
theorem dX12_deal_57 : decode cX12_deal 57 = .ok (.aload_n 0, 1) := by decide +kernel
theorem dX12_deal_58 : decode cX12_deal 58 = .ok (.getfield 8, 3) := by decide +kernel
theorem dX12_deal_61 : decode cX12_deal 61 = .ok (.iload 4, 2) := by decide +kernel
theorem dX12_deal_63 : decode cX12_deal 63 = .ok (.iconst 1, 1) := by decide +kernel
theorem dX12_deal_64 : decode cX12_deal 64 = .ok (.iadd, 1) := by decide +kernel
theorem dX12_deal_65 : decode cX12_deal 65 = .ok (.iaload, 1) := by decide +kernel
theorem dX12_deal_66 : decode cX12_deal 66 = .ok (.iload_n 3, 1) := by decide +kernel
theorem dX12_deal_67 : decode cX12_deal 67 = .ok (.if_icmp .lt 23, 3) := by decide +kernel
theorem dX12_deal_70 : decode cX12_deal 70 = .ok (.aload_n 0, 1) := by decide +kernel
theorem dX12_deal_71 : decode cX12_deal 71 = .ok (.iload_n 1, 1) := by decide +kernel
theorem dX12_deal_72 : decode cX12_deal 72 = .ok (.invokevirtual 484, 3) := by decide +kernel
theorem dX12_deal_75 : decode cX12_deal 75 = .ok (.ifCond .eq 15, 3) := by decide +kernel
theorem dX12_deal_78 : decode cX12_deal 78 = .ok (.aload_n 0, 1) := by decide +kernel
theorem dX12_deal_79 : decode cX12_deal 79 = .ok (.iload_n 2, 1) := by decide +kernel
theorem dX12_deal_80 : decode cX12_deal 80 = .ok (.invokevirtual 484, 3) := by decide +kernel
theorem dX12_deal_83 : decode cX12_deal 83 = .ok (.ifCond .eq 7, 3) := by decide +kernel
theorem dX12_deal_86 : decode cX12_deal 86 = .ok (.iconst 1, 1) := by decide +kernel
theorem dX12_deal_87 : decode cX12_deal 87 = .ok (.goto 4, 3) := by decide +kernel
theorem dX12_deal_17 : decode cX12_deal 17 = .ok (.aload_n 0, 1) := by decide +kernel
theorem dX12_deal_18 : decode cX12_deal 18 = .ok (.iconst (-1), 1) := by decide +kernel
theorem dX12_deal_19 : decode cX12_deal 19 = .ok (.invokevirtual 94, 3) := by decide +kernel
theorem dX12_deal_22 : decode cX12_deal 22 = .ok (.ireturn, 1) := by decide +kernel
theorem dX12_brave_0 : decode cX12_brave 0 = .ok (.aload_n 0, 1) := by decide +kernel
theorem dX12_brave_1 : decode cX12_brave 1 = .ok (.iconst 0, 1) := by decide +kernel
theorem dX12_brave_2 : decode cX12_brave 2 = .ok (.putfield 82, 3) := by decide +kernel
theorem dX12_brave_5 : decode cX12_brave 5 = .ok (.iload_n 1, 1) := by decide +kernel
theorem dX12_brave_6 : decode cX12_brave 6 = .ok (.i2l, 1) := by decide +kernel
theorem dX12_brave_7 : decode cX12_brave 7 = .ok (.lconst 0, 1) := by decide +kernel
theorem dX12_brave_8 : decode cX12_brave 8 = .ok (.ldc2_w 490, 3) := by decide +kernel
theorem dX12_brave_11 : decode cX12_brave 11 = .ok (.invokestatic 90, 3) := by decide +kernel
theorem dX12_brave_14 : decode cX12_brave 14 = .ok (.ifCond .ne 9, 3) := by decide +kernel
theorem dX12_brave_23 : decode cX12_brave 23 = .ok (.aload_n 0, 1) := by decide +kernel
theorem dX12_brave_24 : decode cX12_brave 24 = .ok (.getfield 8, 3) := by decide +kernel
theorem dX12_brave_27 : decode cX12_brave 27 = .ok (.bipush 10, 2) := by decide +kernel
theorem dX12_brave_29 : decode cX12_brave 29 = .ok (.iaload, 1) := by decide +kernel
theorem dX12_brave_30 : decode cX12_brave 30 = .ok (.istore_n 2, 1) := by decide +kernel
theorem dX12_brave_31 : decode cX12_brave 31 = .ok (.aload_n 0, 1) := by decide +kernel
theorem dX12_brave_32 : decode cX12_brave 32 = .ok (.getfield 8, 3) := by decide +kernel
theorem dX12_brave_35 : decode cX12_brave 35 = .ok (.bipush 10, 2) := by decide +kernel
theorem dX12_brave_37 : decode cX12_brave 37 = .ok (.iload_n 1, 1) := by decide +kernel
theorem dX12_brave_38 : decode cX12_brave 38 = .ok (.iastore, 1) := by decide +kernel
theorem dX12_brave_39 : decode cX12_brave 39 = .ok (.aload_n 0, 1) := by decide +kernel
theorem dX12_brave_40 : decode cX12_brave 40 = .ok (.iload_n 2, 1) := by decide +kernel
theorem dX12_brave_41 : decode cX12_brave 41 = .ok (.invokevirtual 94, 3) := by decide +kernel
theorem dX12_brave_44 : decode cX12_brave 44 = .ok (.ireturn, 1) := by decide +kernel
theorem dX12_brave_17 : decode cX12_brave 17 = .ok (.aload_n 0, 1) := by decide +kernel
theorem dX12_brave_18 : decode cX12_brave 18 = .ok (.iconst (-1), 1) := by decide +kernel
theorem dX12_brave_19 : decode cX12_brave 19 = .ok (.invokevirtual 94, 3) := by decide +kernel
theorem dX12_brave_22 : decode cX12_brave 22 = .ok (.ireturn, 1) := by decide +kernel
theorem dX12_keeps_0 : decode cX12_keeps 0 = .ok (.aload_n 0, 1) := by decide +kernel
theorem dX12_keeps_1 : decode cX12_keeps 1 = .ok (.iconst 0, 1) := by decide +kernel
theorem dX12_keeps_2 : decode cX12_keeps 2 = .ok (.putfield 82, 3) := by decide +kernel
theorem dX12_keeps_5 : decode cX12_keeps 5 = .ok (.aload_n 0, 1) := by decide +kernel
theorem dX12_keeps_6 : decode cX12_keeps 6 = .ok (.iload_n 1, 1) := by decide +kernel
theorem dX12_keeps_7 : decode cX12_keeps 7 = .ok (.invokevirtual 111, 3) := by decide +kernel
theorem dX12_keeps_10 : decode cX12_keeps 10 = .ok (.ifCond .eq 33, 3) := by decide +kernel
theorem dX12_keeps_44 : decode cX12_keeps 44 = .ok (.ireturn, 1) := by decide +kernel
theorem dX12_keeps_43 : decode cX12_keeps 43 = .ok (.iconst (-1), 1) := by decide +kernel
theorem dX12_keeps_13 : decode cX12_keeps 13 = .ok (.aload_n 0, 1) := by decide +kernel
theorem dX12_keeps_14 : decode cX12_keeps 14 = .ok (.iload_n 2, 1) := by decide +kernel
theorem dX12_keeps_15 : decode cX12_keeps 15 = .ok (.invokevirtual 111, 3) := by decide +kernel
theorem dX12_keeps_18 : decode cX12_keeps 18 = .ok (.ifCond .eq 25, 3) := by decide +kernel
theorem dX12_keeps_21 : decode cX12_keeps 21 = .ok (.iload_n 1, 1) := by decide +kernel
theorem dX12_keeps_22 : decode cX12_keeps 22 = .ok (.iload_n 2, 1) := by decide +kernel
theorem dX12_keeps_23 : decode cX12_keeps 23 = .ok (.if_icmp .eq 20, 3) := by decide +kernel
theorem dX12_keeps_26 : decode cX12_keeps 26 = .ok (.aload_n 0, 1) := by decide +kernel
theorem dX12_keeps_27 : decode cX12_keeps 27 = .ok (.iload_n 1, 1) := by decide +kernel
theorem dX12_keeps_28 : decode cX12_keeps 28 = .ok (.iload_n 2, 1) := by decide +kernel
theorem dX12_keeps_29 : decode cX12_keeps 29 = .ok (.invokevirtual 487, 3) := by decide +kernel
theorem dX12_keeps_32 : decode cX12_keeps 32 = .ok (.ifCond .eq 7, 3) := by decide +kernel
theorem dX12_keeps_39 : decode cX12_keeps 39 = .ok (.iconst 0, 1) := by decide +kernel
theorem dX12_keeps_40 : decode cX12_keeps 40 = .ok (.goto 4, 3) := by decide +kernel
theorem dX12_keeps_35 : decode cX12_keeps 35 = .ok (.iconst 1, 1) := by decide +kernel
theorem dX12_keeps_36 : decode cX12_keeps 36 = .ok (.goto 8, 3) := by decide +kernel
theorem dX12_broke_0 : decode cX12_broke 0 = .ok (.aload_n 0, 1) := by decide +kernel
theorem dX12_broke_1 : decode cX12_broke 1 = .ok (.iconst 0, 1) := by decide +kernel
theorem dX12_broke_2 : decode cX12_broke 2 = .ok (.putfield 82, 3) := by decide +kernel
theorem dX12_broke_5 : decode cX12_broke 5 = .ok (.aload_n 0, 1) := by decide +kernel
theorem dX12_broke_6 : decode cX12_broke 6 = .ok (.iload_n 1, 1) := by decide +kernel
theorem dX12_broke_7 : decode cX12_broke 7 = .ok (.invokevirtual 111, 3) := by decide +kernel
theorem dX12_broke_10 : decode cX12_broke 10 = .ok (.ifCond .eq 42, 3) := by decide +kernel
theorem dX12_broke_52 : decode cX12_broke 52 = .ok (.iconst (-1), 1) := by decide +kernel
theorem dX12_broke_53 : decode cX12_broke 53 = .ok (.ireturn, 1) := by decide +kernel
theorem dX12_broke_13 : decode cX12_broke 13 = .ok (.iload_n 2, 1) := by decide +kernel
theorem dX12_broke_14 : decode cX12_broke 14 = .ok (.i2l, 1) := by decide +kernel
theorem dX12_broke_15 : decode cX12_broke 15 = .ok (.lconst 1, 1) := by decide +kernel
theorem dX12_broke_16 : decode cX12_broke 16 = .ok (.ldc2_w 159, 3) := by decide +kernel
theorem dX12_broke_19 : decode cX12_broke 19 = .ok (.invokestatic 90, 3) := by decide +kernel
theorem dX12_broke_22 : decode cX12_broke 22 = .ok (.ifCond .eq 30, 3) := by decide +kernel
theorem dX12_broke_25 : decode cX12_broke 25 = .ok (.iload_n 3, 1) := by decide +kernel
theorem dX12_broke_26 : decode cX12_broke 26 = .ok (.i2l, 1) := by decide +kernel
theorem dX12_broke_27 : decode cX12_broke 27 = .ok (.lconst 0, 1) := by decide +kernel
theorem dX12_broke_28 : decode cX12_broke 28 = .ok (.ldc2_w 492, 3) := by decide +kernel
theorem dX12_broke_31 : decode cX12_broke 31 = .ok (.invokestatic 90, 3) := by decide +kernel
theorem dX12_broke_34 : decode cX12_broke 34 = .ok (.ifCond .eq 18, 3) := by decide +kernel
theorem dX12_broke_37 : decode cX12_broke 37 = .ok (.aload_n 0, 1) := by decide +kernel
theorem dX12_broke_38 : decode cX12_broke 38 = .ok (.getfield 8, 3) := by decide +kernel
theorem dX12_broke_41 : decode cX12_broke 41 = .ok (.iload_n 1, 1) := by decide +kernel
theorem dX12_broke_42 : decode cX12_broke 42 = .ok (.invokestatic 104, 3) := by decide +kernel
theorem dX12_broke_45 : decode cX12_broke 45 = .ok (.bipush 6, 2) := by decide +kernel
theorem dX12_broke_47 : decode cX12_broke 47 = .ok (.iadd, 1) := by decide +kernel
theorem dX12_broke_48 : decode cX12_broke 48 = .ok (.iaload, 1) := by decide +kernel
theorem dX12_broke_49 : decode cX12_broke 49 = .ok (.ifCond .ne 5, 3) := by decide +kernel
theorem dX12_broke_54 : decode cX12_broke 54 = .ok (.iconst 0, 1) := by decide +kernel
theorem dX12_broke_55 : decode cX12_broke 55 = .ok (.istore 5, 2) := by decide +kernel
theorem dX12_broke_57 : decode cX12_broke 57 = .ok (.iconst (-1), 1) := by decide +kernel
theorem dX12_broke_58 : decode cX12_broke 58 = .ok (.istore 6, 2) := by decide +kernel
theorem dX12_broke_60 : decode cX12_broke 60 = .ok (.iconst (-1), 1) := by decide +kernel
theorem dX12_broke_61 : decode cX12_broke 61 = .ok (.istore 7, 2) := by decide +kernel
theorem dX12_broke_63 : decode cX12_broke 63 = .ok (.iconst 0, 1) := by decide +kernel
theorem dX12_broke_64 : decode cX12_broke 64 = .ok (.istore 8, 2) := by decide +kernel
theorem dX12_broke_66 : decode cX12_broke 66 = .ok (.iload 8, 2) := by decide +kernel
theorem dX12_broke_68 : decode cX12_broke 68 = .ok (.aload_n 0, 1) := by decide +kernel
theorem dX12_broke_69 : decode cX12_broke 69 = .ok (.getfield 8, 3) := by decide +kernel
theorem dX12_broke_72 : decode cX12_broke 72 = .ok (.iconst 0, 1) := by decide +kernel
theorem dX12_broke_73 : decode cX12_broke 73 = .ok (.iaload, 1) := by decide +kernel
theorem dX12_broke_74 : decode cX12_broke 74 = .ok (.if_icmp .ge 83, 3) := by decide +kernel
theorem dX12_broke_157 : decode cX12_broke 157 = .ok (.iload_n 3, 1) := by decide +kernel
theorem dX12_broke_158 : decode cX12_broke 158 = .ok (.ifCond .ne 18, 3) := by decide +kernel
theorem dX12_broke_188 : decode cX12_broke 188 = .ok (.ireturn, 1) := by decide +kernel
theorem dX12_broke_176 : decode cX12_broke 176 = .ok (.iload_n 3, 1) := by decide +kernel
theorem dX12_broke_177 : decode cX12_broke 177 = .ok (.iconst 1, 1) := by decide +kernel
theorem dX12_broke_178 : decode cX12_broke 178 = .ok (.if_icmp .ne 8, 3) := by decide +kernel
theorem dX12_broke_186 : decode cX12_broke 186 = .ok (.iload 7, 2) := by decide +kernel
theorem dX12_broke_181 : decode cX12_broke 181 = .ok (.iload 5, 2) := by decide +kernel
theorem dX12_broke_183 : decode cX12_broke 183 = .ok (.goto 5, 3) := by decide +kernel
theorem dX12_broke_161 : decode cX12_broke 161 = .ok (.iload 5, 2) := by decide +kernel
theorem dX12_broke_163 : decode cX12_broke 163 = .ok (.iconst 1, 1) := by decide +kernel
theorem dX12_broke_164 : decode cX12_broke 164 = .ok (.if_icmp .ne 8, 3) := by decide +kernel
theorem dX12_broke_172 : decode cX12_broke 172 = .ok (.iconst (-1), 1) := by decide +kernel
theorem dX12_broke_173 : decode cX12_broke 173 = .ok (.goto 15, 3) := by decide +kernel
theorem dX12_broke_167 : decode cX12_broke 167 = .ok (.iload 6, 2) := by decide +kernel
theorem dX12_broke_169 : decode cX12_broke 169 = .ok (.goto 19, 3) := by decide +kernel
theorem dX12_broke_77 : decode cX12_broke 77 = .ok (.iload 8, 2) := by decide +kernel
theorem dX12_broke_79 : decode cX12_broke 79 = .ok (.iload_n 1, 1) := by decide +kernel
theorem dX12_broke_80 : decode cX12_broke 80 = .ok (.if_icmp .eq 71, 3) := by decide +kernel
theorem dX12_broke_151 : decode cX12_broke 151 = .ok (.iinc 8 1, 3) := by decide +kernel
theorem dX12_broke_154 : decode cX12_broke 154 = .ok (.goto (-88), 3) := by decide +kernel
theorem dX12_broke_83 : decode cX12_broke 83 = .ok (.aload_n 0, 1) := by decide +kernel
theorem dX12_broke_84 : decode cX12_broke 84 = .ok (.iload 8, 2) := by decide +kernel
theorem dX12_broke_86 : decode cX12_broke 86 = .ok (.invokevirtual 484, 3) := by decide +kernel
theorem dX12_broke_89 : decode cX12_broke 89 = .ok (.ifCond .eq 62, 3) := by decide +kernel
theorem dX12_broke_92 : decode cX12_broke 92 = .ok (.aload_n 0, 1) := by decide +kernel
theorem dX12_broke_93 : decode cX12_broke 93 = .ok (.iload 8, 2) := by decide +kernel
theorem dX12_broke_95 : decode cX12_broke 95 = .ok (.iload_n 1, 1) := by decide +kernel
theorem dX12_broke_96 : decode cX12_broke 96 = .ok (.invokevirtual 487, 3) := by decide +kernel
theorem dX12_broke_99 : decode cX12_broke 99 = .ok (.ifCond .ne 52, 3) := by decide +kernel
theorem dX12_broke_102 : decode cX12_broke 102 = .ok (.aload_n 0, 1) := by decide +kernel
theorem dX12_broke_103 : decode cX12_broke 103 = .ok (.getfield 8, 3) := by decide +kernel
theorem dX12_broke_106 : decode cX12_broke 106 = .ok (.iload 8, 2) := by decide +kernel
theorem dX12_broke_108 : decode cX12_broke 108 = .ok (.invokestatic 104, 3) := by decide +kernel
theorem dX12_broke_111 : decode cX12_broke 111 = .ok (.iconst 1, 1) := by decide +kernel
theorem dX12_broke_112 : decode cX12_broke 112 = .ok (.iadd, 1) := by decide +kernel
theorem dX12_broke_113 : decode cX12_broke 113 = .ok (.iaload, 1) := by decide +kernel
theorem dX12_broke_114 : decode cX12_broke 114 = .ok (.iload_n 2, 1) := by decide +kernel
theorem dX12_broke_115 : decode cX12_broke 115 = .ok (.if_icmp .lt 36, 3) := by decide +kernel
theorem dX12_broke_118 : decode cX12_broke 118 = .ok (.iload 5, 2) := by decide +kernel
theorem dX12_broke_120 : decode cX12_broke 120 = .ok (.ifCond .ne 8, 3) := by decide +kernel
theorem dX12_broke_130 : decode cX12_broke 130 = .ok (.istore 6, 2) := by decide +kernel
theorem dX12_broke_132 : decode cX12_broke 132 = .ok (.iload 5, 2) := by decide +kernel
theorem dX12_broke_134 : decode cX12_broke 134 = .ok (.iload 4, 2) := by decide +kernel
theorem dX12_broke_136 : decode cX12_broke 136 = .ok (.if_icmp .ne 8, 3) := by decide +kernel
theorem dX12_broke_146 : decode cX12_broke 146 = .ok (.istore 7, 2) := by decide +kernel
theorem dX12_broke_148 : decode cX12_broke 148 = .ok (.iinc 5 1, 3) := by decide +kernel
theorem dX12_broke_144 : decode cX12_broke 144 = .ok (.iload 7, 2) := by decide +kernel
theorem dX12_broke_139 : decode cX12_broke 139 = .ok (.iload 8, 2) := by decide +kernel
theorem dX12_broke_141 : decode cX12_broke 141 = .ok (.goto 5, 3) := by decide +kernel
theorem dX12_broke_128 : decode cX12_broke 128 = .ok (.iload 6, 2) := by decide +kernel
theorem dX12_broke_123 : decode cX12_broke 123 = .ok (.iload 8, 2) := by decide +kernel
theorem dX12_broke_125 : decode cX12_broke 125 = .ok (.goto 5, 3) := by decide +kernel
theorem dX12_last_0 : decode cX12_last 0 = .ok (.aload_n 0, 1) := by decide +kernel
theorem dX12_last_1 : decode cX12_last 1 = .ok (.iconst 0, 1) := by decide +kernel
theorem dX12_last_2 : decode cX12_last 2 = .ok (.putfield 82, 3) := by decide +kernel
theorem dX12_last_5 : decode cX12_last 5 = .ok (.iload_n 1, 1) := by decide +kernel
theorem dX12_last_6 : decode cX12_last 6 = .ok (.i2l, 1) := by decide +kernel
theorem dX12_last_7 : decode cX12_last 7 = .ok (.lconst 1, 1) := by decide +kernel
theorem dX12_last_8 : decode cX12_last 8 = .ok (.ldc2_w 159, 3) := by decide +kernel
theorem dX12_last_11 : decode cX12_last 11 = .ok (.invokestatic 90, 3) := by decide +kernel
theorem dX12_last_14 : decode cX12_last 14 = .ok (.ifCond .eq 27, 3) := by decide +kernel
theorem dX12_last_41 : decode cX12_last 41 = .ok (.iconst (-1), 1) := by decide +kernel
theorem dX12_last_42 : decode cX12_last 42 = .ok (.ireturn, 1) := by decide +kernel
theorem dX12_last_17 : decode cX12_last 17 = .ok (.iload_n 2, 1) := by decide +kernel
theorem dX12_last_18 : decode cX12_last 18 = .ok (.i2l, 1) := by decide +kernel
theorem dX12_last_19 : decode cX12_last 19 = .ok (.lconst 0, 1) := by decide +kernel
theorem dX12_last_20 : decode cX12_last 20 = .ok (.ldc2_w 128, 3) := by decide +kernel
theorem dX12_last_23 : decode cX12_last 23 = .ok (.invokestatic 90, 3) := by decide +kernel
theorem dX12_last_26 : decode cX12_last 26 = .ok (.ifCond .eq 15, 3) := by decide +kernel
theorem dX12_last_29 : decode cX12_last 29 = .ok (.iload_n 3, 1) := by decide +kernel
theorem dX12_last_30 : decode cX12_last 30 = .ok (.i2l, 1) := by decide +kernel
theorem dX12_last_31 : decode cX12_last 31 = .ok (.lconst 0, 1) := by decide +kernel
theorem dX12_last_32 : decode cX12_last 32 = .ok (.ldc2_w 128, 3) := by decide +kernel
theorem dX12_last_35 : decode cX12_last 35 = .ok (.invokestatic 90, 3) := by decide +kernel
theorem dX12_last_38 : decode cX12_last 38 = .ok (.ifCond .ne 5, 3) := by decide +kernel
theorem dX12_last_43 : decode cX12_last 43 = .ok (.aload_n 0, 1) := by decide +kernel
theorem dX12_last_44 : decode cX12_last 44 = .ok (.getfield 8, 3) := by decide +kernel
theorem dX12_last_47 : decode cX12_last 47 = .ok (.bipush 9, 2) := by decide +kernel
theorem dX12_last_49 : decode cX12_last 49 = .ok (.iaload, 1) := by decide +kernel
theorem dX12_last_50 : decode cX12_last 50 = .ok (.i2l, 1) := by decide +kernel
theorem dX12_last_51 : decode cX12_last 51 = .ok (.lstore 4, 2) := by decide +kernel
theorem dX12_last_53 : decode cX12_last 53 = .ok (.iconst 0, 1) := by decide +kernel
theorem dX12_last_54 : decode cX12_last 54 = .ok (.istore 6, 2) := by decide +kernel
theorem dX12_last_56 : decode cX12_last 56 = .ok (.iload 6, 2) := by decide +kernel
theorem dX12_last_58 : decode cX12_last 58 = .ok (.sipush 400, 3) := by decide +kernel
theorem dX12_last_61 : decode cX12_last 61 = .ok (.if_icmp .ge 40, 3) := by decide +kernel
theorem dX12_last_101 : decode cX12_last 101 = .ok (.iload 6, 2) := by decide +kernel
theorem dX12_last_103 : decode cX12_last 103 = .ok (.ireturn, 1) := by decide +kernel
theorem dX12_last_64 : decode cX12_last 64 = .ok (.lload 4, 2) := by decide +kernel
theorem dX12_last_66 : decode cX12_last 66 = .ok (.iload_n 1, 1) := by decide +kernel
theorem dX12_last_67 : decode cX12_last 67 = .ok (.i2l, 1) := by decide +kernel
theorem dX12_last_68 : decode cX12_last 68 = .ok (.iload_n 2, 1) := by decide +kernel
theorem dX12_last_69 : decode cX12_last 69 = .ok (.iload_n 3, 1) := by decide +kernel
theorem dX12_last_70 : decode cX12_last 70 = .ok (.iload 6, 2) := by decide +kernel
theorem dX12_last_72 : decode cX12_last 72 = .ok (.imul, 1) := by decide +kernel
theorem dX12_last_73 : decode cX12_last 73 = .ok (.iadd, 1) := by decide +kernel
theorem dX12_last_74 : decode cX12_last 74 = .ok (.i2l, 1) := by decide +kernel
theorem dX12_last_75 : decode cX12_last 75 = .ok (.lmul, 1) := by decide +kernel
theorem dX12_last_76 : decode cX12_last 76 = .ok (.lcmp, 1) := by decide +kernel
theorem dX12_last_77 : decode cX12_last 77 = .ok (.ifCond .lt 24, 3) := by decide +kernel
theorem dX12_last_80 : decode cX12_last 80 = .ok (.lload 4, 2) := by decide +kernel
theorem dX12_last_82 : decode cX12_last 82 = .ok (.iload_n 1, 1) := by decide +kernel
theorem dX12_last_83 : decode cX12_last 83 = .ok (.i2l, 1) := by decide +kernel
theorem dX12_last_84 : decode cX12_last 84 = .ok (.iload_n 2, 1) := by decide +kernel
theorem dX12_last_85 : decode cX12_last 85 = .ok (.iload_n 3, 1) := by decide +kernel
theorem dX12_last_86 : decode cX12_last 86 = .ok (.iload 6, 2) := by decide +kernel
theorem dX12_last_88 : decode cX12_last 88 = .ok (.imul, 1) := by decide +kernel
theorem dX12_last_89 : decode cX12_last 89 = .ok (.iadd, 1) := by decide +kernel
theorem dX12_last_90 : decode cX12_last 90 = .ok (.i2l, 1) := by decide +kernel
theorem dX12_last_91 : decode cX12_last 91 = .ok (.lmul, 1) := by decide +kernel
theorem dX12_last_92 : decode cX12_last 92 = .ok (.lsub, 1) := by decide +kernel
theorem dX12_last_93 : decode cX12_last 93 = .ok (.lstore 4, 2) := by decide +kernel
theorem dX12_last_95 : decode cX12_last 95 = .ok (.iinc 6 1, 3) := by decide +kernel
theorem dX12_last_98 : decode cX12_last 98 = .ok (.goto (-42), 3) := by decide +kernel
theorem dX12_falls_0 : decode cX12_falls 0 = .ok (.aload_n 0, 1) := by decide +kernel
theorem dX12_falls_1 : decode cX12_falls 1 = .ok (.getfield 8, 3) := by decide +kernel
theorem dX12_falls_4 : decode cX12_falls 4 = .ok (.iload_n 1, 1) := by decide +kernel
theorem dX12_falls_5 : decode cX12_falls 5 = .ok (.invokestatic 125, 3) := by decide +kernel
theorem dX12_falls_8 : decode cX12_falls 8 = .ok (.iaload, 1) := by decide +kernel
theorem dX12_falls_9 : decode cX12_falls 9 = .ok (.i2l, 1) := by decide +kernel
theorem dX12_falls_10 : decode cX12_falls 10 = .ok (.lstore 5, 2) := by decide +kernel
theorem dX12_falls_12 : decode cX12_falls 12 = .ok (.iconst 0, 1) := by decide +kernel
theorem dX12_falls_13 : decode cX12_falls 13 = .ok (.istore 7, 2) := by decide +kernel
theorem dX12_falls_15 : decode cX12_falls 15 = .ok (.iload 7, 2) := by decide +kernel
theorem dX12_falls_17 : decode cX12_falls 17 = .ok (.iload 4, 2) := by decide +kernel
theorem dX12_falls_19 : decode cX12_falls 19 = .ok (.if_icmp .ge 37, 3) := by decide +kernel
theorem dX12_falls_56 : decode cX12_falls 56 = .ok (.iconst 0, 1) := by decide +kernel
theorem dX12_falls_57 : decode cX12_falls 57 = .ok (.ireturn, 1) := by decide +kernel
theorem dX12_falls_22 : decode cX12_falls 22 = .ok (.lload 5, 2) := by decide +kernel
theorem dX12_falls_24 : decode cX12_falls 24 = .ok (.lload_n 2, 1) := by decide +kernel
theorem dX12_falls_25 : decode cX12_falls 25 = .ok (.aload_n 0, 1) := by decide +kernel
theorem dX12_falls_26 : decode cX12_falls 26 = .ok (.getfield 8, 3) := by decide +kernel
theorem dX12_falls_29 : decode cX12_falls 29 = .ok (.iload_n 1, 1) := by decide +kernel
theorem dX12_falls_30 : decode cX12_falls 30 = .ok (.invokestatic 125, 3) := by decide +kernel
theorem dX12_falls_33 : decode cX12_falls 33 = .ok (.iconst 1, 1) := by decide +kernel
theorem dX12_falls_34 : decode cX12_falls 34 = .ok (.iadd, 1) := by decide +kernel
theorem dX12_falls_35 : decode cX12_falls 35 = .ok (.iaload, 1) := by decide +kernel
theorem dX12_falls_36 : decode cX12_falls 36 = .ok (.i2l, 1) := by decide +kernel
theorem dX12_falls_37 : decode cX12_falls 37 = .ok (.lsub, 1) := by decide +kernel
theorem dX12_falls_38 : decode cX12_falls 38 = .ok (.ladd, 1) := by decide +kernel
theorem dX12_falls_39 : decode cX12_falls 39 = .ok (.lstore 5, 2) := by decide +kernel
theorem dX12_falls_41 : decode cX12_falls 41 = .ok (.lload 5, 2) := by decide +kernel
theorem dX12_falls_43 : decode cX12_falls 43 = .ok (.lconst 0, 1) := by decide +kernel
theorem dX12_falls_44 : decode cX12_falls 44 = .ok (.lcmp, 1) := by decide +kernel
theorem dX12_falls_45 : decode cX12_falls 45 = .ok (.ifCond .ge 5, 3) := by decide +kernel
theorem dX12_falls_50 : decode cX12_falls 50 = .ok (.iinc 7 1, 3) := by decide +kernel
theorem dX12_falls_53 : decode cX12_falls 53 = .ok (.goto (-38), 3) := by decide +kernel
theorem dX12_falls_48 : decode cX12_falls 48 = .ok (.iconst 1, 1) := by decide +kernel
theorem dX12_falls_49 : decode cX12_falls 49 = .ok (.ireturn, 1) := by decide +kernel
theorem dX12_offer_0 : decode cX12_offer 0 = .ok (.aload_n 0, 1) := by decide +kernel
theorem dX12_offer_1 : decode cX12_offer 1 = .ok (.iconst 0, 1) := by decide +kernel
theorem dX12_offer_2 : decode cX12_offer 2 = .ok (.putfield 82, 3) := by decide +kernel
theorem dX12_offer_5 : decode cX12_offer 5 = .ok (.iload_n 1, 1) := by decide +kernel
theorem dX12_offer_6 : decode cX12_offer 6 = .ok (.i2l, 1) := by decide +kernel
theorem dX12_offer_7 : decode cX12_offer 7 = .ok (.ldc2_w 500, 3) := by decide +kernel
theorem dX12_offer_10 : decode cX12_offer 10 = .ok (.ldc2_w 128, 3) := by decide +kernel
theorem dX12_offer_13 : decode cX12_offer 13 = .ok (.invokestatic 90, 3) := by decide +kernel
theorem dX12_offer_16 : decode cX12_offer 16 = .ok (.ifCond .eq 17, 3) := by decide +kernel
theorem dX12_offer_33 : decode cX12_offer 33 = .ok (.aload_n 0, 1) := by decide +kernel
theorem dX12_offer_34 : decode cX12_offer 34 = .ok (.iconst (-1), 1) := by decide +kernel
theorem dX12_offer_35 : decode cX12_offer 35 = .ok (.invokevirtual 94, 3) := by decide +kernel
theorem dX12_offer_38 : decode cX12_offer 38 = .ok (.ireturn, 1) := by decide +kernel
theorem dX12_offer_19 : decode cX12_offer 19 = .ok (.iload_n 2, 1) := by decide +kernel
theorem dX12_offer_20 : decode cX12_offer 20 = .ok (.i2l, 1) := by decide +kernel
theorem dX12_offer_21 : decode cX12_offer 21 = .ok (.ldc2_w 500, 3) := by decide +kernel
theorem dX12_offer_24 : decode cX12_offer 24 = .ok (.ldc2_w 128, 3) := by decide +kernel
theorem dX12_offer_27 : decode cX12_offer 27 = .ok (.invokestatic 90, 3) := by decide +kernel
theorem dX12_offer_30 : decode cX12_offer 30 = .ok (.ifCond .ne 9, 3) := by decide +kernel
theorem dX12_offer_39 : decode cX12_offer 39 = .ok (.aload_n 0, 1) := by decide +kernel
theorem dX12_offer_40 : decode cX12_offer 40 = .ok (.getfield 8, 3) := by decide +kernel
theorem dX12_offer_43 : decode cX12_offer 43 = .ok (.bipush 6, 2) := by decide +kernel
theorem dX12_offer_45 : decode cX12_offer 45 = .ok (.iaload, 1) := by decide +kernel
theorem dX12_offer_46 : decode cX12_offer 46 = .ok (.bipush 9, 2) := by decide +kernel
theorem dX12_offer_48 : decode cX12_offer 48 = .ok (.if_icmp .ne 10, 3) := by decide +kernel
theorem dX12_offer_58 : decode cX12_offer 58 = .ok (.aload_n 0, 1) := by decide +kernel
theorem dX12_offer_59 : decode cX12_offer 59 = .ok (.getfield 8, 3) := by decide +kernel
theorem dX12_offer_62 : decode cX12_offer 62 = .ok (.sipush 1164, 3) := by decide +kernel
theorem dX12_offer_65 : decode cX12_offer 65 = .ok (.iconst 2, 1) := by decide +kernel
theorem dX12_offer_66 : decode cX12_offer 66 = .ok (.aload_n 0, 1) := by decide +kernel
theorem dX12_offer_67 : decode cX12_offer 67 = .ok (.getfield 8, 3) := by decide +kernel
theorem dX12_offer_70 : decode cX12_offer 70 = .ok (.bipush 6, 2) := by decide +kernel
theorem dX12_offer_72 : decode cX12_offer 72 = .ok (.iaload, 1) := by decide +kernel
theorem dX12_offer_73 : decode cX12_offer 73 = .ok (.imul, 1) := by decide +kernel
theorem dX12_offer_74 : decode cX12_offer 74 = .ok (.iadd, 1) := by decide +kernel
theorem dX12_offer_75 : decode cX12_offer 75 = .ok (.iload_n 1, 1) := by decide +kernel
theorem dX12_offer_76 : decode cX12_offer 76 = .ok (.iastore, 1) := by decide +kernel
theorem dX12_offer_77 : decode cX12_offer 77 = .ok (.aload_n 0, 1) := by decide +kernel
theorem dX12_offer_78 : decode cX12_offer 78 = .ok (.getfield 8, 3) := by decide +kernel
theorem dX12_offer_81 : decode cX12_offer 81 = .ok (.sipush 1164, 3) := by decide +kernel
theorem dX12_offer_84 : decode cX12_offer 84 = .ok (.iconst 2, 1) := by decide +kernel
theorem dX12_offer_85 : decode cX12_offer 85 = .ok (.aload_n 0, 1) := by decide +kernel
theorem dX12_offer_86 : decode cX12_offer 86 = .ok (.getfield 8, 3) := by decide +kernel
theorem dX12_offer_89 : decode cX12_offer 89 = .ok (.bipush 6, 2) := by decide +kernel
theorem dX12_offer_91 : decode cX12_offer 91 = .ok (.iaload, 1) := by decide +kernel
theorem dX12_offer_92 : decode cX12_offer 92 = .ok (.imul, 1) := by decide +kernel
theorem dX12_offer_93 : decode cX12_offer 93 = .ok (.iadd, 1) := by decide +kernel
theorem dX12_offer_94 : decode cX12_offer 94 = .ok (.iconst 1, 1) := by decide +kernel
theorem dX12_offer_95 : decode cX12_offer 95 = .ok (.iadd, 1) := by decide +kernel
theorem dX12_offer_96 : decode cX12_offer 96 = .ok (.iload_n 2, 1) := by decide +kernel
theorem dX12_offer_97 : decode cX12_offer 97 = .ok (.iastore, 1) := by decide +kernel
theorem dX12_offer_98 : decode cX12_offer 98 = .ok (.aload_n 0, 1) := by decide +kernel
theorem dX12_offer_99 : decode cX12_offer 99 = .ok (.getfield 8, 3) := by decide +kernel
theorem dX12_offer_102 : decode cX12_offer 102 = .ok (.bipush 6, 2) := by decide +kernel
theorem dX12_offer_104 : decode cX12_offer 104 = .ok (.dup2, 1) := by decide +kernel
theorem dX12_offer_105 : decode cX12_offer 105 = .ok (.iaload, 1) := by decide +kernel
theorem dX12_offer_106 : decode cX12_offer 106 = .ok (.iconst 1, 1) := by decide +kernel
theorem dX12_offer_107 : decode cX12_offer 107 = .ok (.iadd, 1) := by decide +kernel
theorem dX12_offer_108 : decode cX12_offer 108 = .ok (.iastore, 1) := by decide +kernel
theorem dX12_offer_109 : decode cX12_offer 109 = .ok (.aload_n 0, 1) := by decide +kernel
theorem dX12_offer_110 : decode cX12_offer 110 = .ok (.aload_n 0, 1) := by decide +kernel
theorem dX12_offer_111 : decode cX12_offer 111 = .ok (.getfield 8, 3) := by decide +kernel
theorem dX12_offer_114 : decode cX12_offer 114 = .ok (.bipush 6, 2) := by decide +kernel
theorem dX12_offer_116 : decode cX12_offer 116 = .ok (.iaload, 1) := by decide +kernel
theorem dX12_offer_117 : decode cX12_offer 117 = .ok (.invokevirtual 94, 3) := by decide +kernel
theorem dX12_offer_120 : decode cX12_offer 120 = .ok (.ireturn, 1) := by decide +kernel
theorem dX12_offer_51 : decode cX12_offer 51 = .ok (.aload_n 0, 1) := by decide +kernel
theorem dX12_offer_52 : decode cX12_offer 52 = .ok (.bipush (-5), 2) := by decide +kernel
theorem dX12_offer_54 : decode cX12_offer 54 = .ok (.invokevirtual 94, 3) := by decide +kernel
theorem dX12_offer_57 : decode cX12_offer 57 = .ok (.ireturn, 1) := by decide +kernel
theorem dX12_agree_0 : decode cX12_agree 0 = .ok (.aload_n 0, 1) := by decide +kernel
theorem dX12_agree_1 : decode cX12_agree 1 = .ok (.iconst 0, 1) := by decide +kernel
theorem dX12_agree_2 : decode cX12_agree 2 = .ok (.putfield 82, 3) := by decide +kernel
theorem dX12_agree_5 : decode cX12_agree 5 = .ok (.iload_n 1, 1) := by decide +kernel
theorem dX12_agree_6 : decode cX12_agree 6 = .ok (.i2l, 1) := by decide +kernel
theorem dX12_agree_7 : decode cX12_agree 7 = .ok (.ldc2_w 502, 3) := by decide +kernel
theorem dX12_agree_10 : decode cX12_agree 10 = .ok (.ldc2_w 159, 3) := by decide +kernel
theorem dX12_agree_13 : decode cX12_agree 13 = .ok (.invokestatic 90, 3) := by decide +kernel
theorem dX12_agree_16 : decode cX12_agree 16 = .ok (.ifCond .eq 17, 3) := by decide +kernel
theorem dX12_agree_33 : decode cX12_agree 33 = .ok (.iconst (-1), 1) := by decide +kernel
theorem dX12_agree_34 : decode cX12_agree 34 = .ok (.ireturn, 1) := by decide +kernel
theorem dX12_agree_19 : decode cX12_agree 19 = .ok (.iload_n 2, 1) := by decide +kernel
theorem dX12_agree_20 : decode cX12_agree 20 = .ok (.i2l, 1) := by decide +kernel
theorem dX12_agree_21 : decode cX12_agree 21 = .ok (.ldc2_w 502, 3) := by decide +kernel
theorem dX12_agree_24 : decode cX12_agree 24 = .ok (.ldc2_w 159, 3) := by decide +kernel
theorem dX12_agree_27 : decode cX12_agree 27 = .ok (.invokestatic 90, 3) := by decide +kernel
theorem dX12_agree_30 : decode cX12_agree 30 = .ok (.ifCond .ne 5, 3) := by decide +kernel
theorem dX12_agree_35 : decode cX12_agree 35 = .ok (.iconst (-1), 1) := by decide +kernel
theorem dX12_agree_36 : decode cX12_agree 36 = .ok (.istore_n 3, 1) := by decide +kernel
theorem dX12_agree_37 : decode cX12_agree 37 = .ok (.iconst 0, 1) := by decide +kernel
theorem dX12_agree_38 : decode cX12_agree 38 = .ok (.istore 4, 2) := by decide +kernel
theorem dX12_agree_40 : decode cX12_agree 40 = .ok (.iconst 0, 1) := by decide +kernel
theorem dX12_agree_41 : decode cX12_agree 41 = .ok (.istore 5, 2) := by decide +kernel
theorem dX12_agree_43 : decode cX12_agree 43 = .ok (.iconst 0, 1) := by decide +kernel
theorem dX12_agree_44 : decode cX12_agree 44 = .ok (.istore 6, 2) := by decide +kernel
theorem dX12_agree_46 : decode cX12_agree 46 = .ok (.iload 6, 2) := by decide +kernel
theorem dX12_agree_48 : decode cX12_agree 48 = .ok (.iconst 1, 1) := by decide +kernel
theorem dX12_agree_49 : decode cX12_agree 49 = .ok (.aload_n 0, 1) := by decide +kernel
theorem dX12_agree_50 : decode cX12_agree 50 = .ok (.getfield 8, 3) := by decide +kernel
theorem dX12_agree_53 : decode cX12_agree 53 = .ok (.bipush 6, 2) := by decide +kernel
theorem dX12_agree_55 : decode cX12_agree 55 = .ok (.iaload, 1) := by decide +kernel
theorem dX12_agree_56 : decode cX12_agree 56 = .ok (.ishl, 1) := by decide +kernel
theorem dX12_agree_57 : decode cX12_agree 57 = .ok (.if_icmp .ge 171, 3) := by decide +kernel
theorem dX12_agree_228 : decode cX12_agree 228 = .ok (.iload_n 3, 1) := by decide +kernel
theorem dX12_agree_229 : decode cX12_agree 229 = .ok (.ireturn, 1) := by decide +kernel
theorem dX12_agree_60 : decode cX12_agree 60 = .ok (.iconst 0, 1) := by decide +kernel
theorem dX12_agree_61 : decode cX12_agree 61 = .ok (.istore 7, 2) := by decide +kernel
theorem dX12_agree_63 : decode cX12_agree 63 = .ok (.iconst 0, 1) := by decide +kernel
theorem dX12_agree_64 : decode cX12_agree 64 = .ok (.istore 8, 2) := by decide +kernel
theorem dX12_agree_66 : decode cX12_agree 66 = .ok (.iconst 0, 1) := by decide +kernel
theorem dX12_agree_67 : decode cX12_agree 67 = .ok (.istore 9, 2) := by decide +kernel
theorem dX12_agree_69 : decode cX12_agree 69 = .ok (.iconst 0, 1) := by decide +kernel
theorem dX12_agree_70 : decode cX12_agree 70 = .ok (.istore 10, 2) := by decide +kernel
theorem dX12_agree_72 : decode cX12_agree 72 = .ok (.iload 10, 2) := by decide +kernel
theorem dX12_agree_74 : decode cX12_agree 74 = .ok (.aload_n 0, 1) := by decide +kernel
theorem dX12_agree_75 : decode cX12_agree 75 = .ok (.getfield 8, 3) := by decide +kernel
theorem dX12_agree_78 : decode cX12_agree 78 = .ok (.bipush 6, 2) := by decide +kernel
theorem dX12_agree_80 : decode cX12_agree 80 = .ok (.iaload, 1) := by decide +kernel
theorem dX12_agree_81 : decode cX12_agree 81 = .ok (.if_icmp .ge 75, 3) := by decide +kernel
theorem dX12_agree_156 : decode cX12_agree 156 = .ok (.iload_n 3, 1) := by decide +kernel
theorem dX12_agree_157 : decode cX12_agree 157 = .ok (.ifCond .lt 27, 3) := by decide +kernel
theorem dX12_agree_189 : decode cX12_agree 189 = .ok (.istore 10, 2) := by decide +kernel
theorem dX12_agree_191 : decode cX12_agree 191 = .ok (.iload 7, 2) := by decide +kernel
theorem dX12_agree_193 : decode cX12_agree 193 = .ok (.iload_n 1, 1) := by decide +kernel
theorem dX12_agree_194 : decode cX12_agree 194 = .ok (.if_icmp .lt 28, 3) := by decide +kernel
theorem dX12_agree_222 : decode cX12_agree 222 = .ok (.iinc 6 1, 3) := by decide +kernel
theorem dX12_agree_225 : decode cX12_agree 225 = .ok (.goto (-179), 3) := by decide +kernel
theorem dX12_agree_197 : decode cX12_agree 197 = .ok (.iload 8, 2) := by decide +kernel
theorem dX12_agree_199 : decode cX12_agree 199 = .ok (.iload_n 2, 1) := by decide +kernel
theorem dX12_agree_200 : decode cX12_agree 200 = .ok (.if_icmp .lt 22, 3) := by decide +kernel
theorem dX12_agree_203 : decode cX12_agree 203 = .ok (.iload 10, 2) := by decide +kernel
theorem dX12_agree_205 : decode cX12_agree 205 = .ok (.ifCond .eq 17, 3) := by decide +kernel
theorem dX12_agree_208 : decode cX12_agree 208 = .ok (.iload 6, 2) := by decide +kernel
theorem dX12_agree_210 : decode cX12_agree 210 = .ok (.istore_n 3, 1) := by decide +kernel
theorem dX12_agree_211 : decode cX12_agree 211 = .ok (.iload 9, 2) := by decide +kernel
theorem dX12_agree_213 : decode cX12_agree 213 = .ok (.istore 4, 2) := by decide +kernel
theorem dX12_agree_215 : decode cX12_agree 215 = .ok (.iload 7, 2) := by decide +kernel
theorem dX12_agree_217 : decode cX12_agree 217 = .ok (.iload 8, 2) := by decide +kernel
theorem dX12_agree_219 : decode cX12_agree 219 = .ok (.iadd, 1) := by decide +kernel
theorem dX12_agree_220 : decode cX12_agree 220 = .ok (.istore 5, 2) := by decide +kernel
theorem dX12_agree_184 : decode cX12_agree 184 = .ok (.iconst 1, 1) := by decide +kernel
theorem dX12_agree_185 : decode cX12_agree 185 = .ok (.goto 4, 3) := by decide +kernel
theorem dX12_agree_160 : decode cX12_agree 160 = .ok (.iload 9, 2) := by decide +kernel
theorem dX12_agree_162 : decode cX12_agree 162 = .ok (.iload 4, 2) := by decide +kernel
theorem dX12_agree_164 : decode cX12_agree 164 = .ok (.if_icmp .lt 20, 3) := by decide +kernel
theorem dX12_agree_167 : decode cX12_agree 167 = .ok (.iload 9, 2) := by decide +kernel
theorem dX12_agree_169 : decode cX12_agree 169 = .ok (.iload 4, 2) := by decide +kernel
theorem dX12_agree_171 : decode cX12_agree 171 = .ok (.if_icmp .ne 17, 3) := by decide +kernel
theorem dX12_agree_188 : decode cX12_agree 188 = .ok (.iconst 0, 1) := by decide +kernel
theorem dX12_agree_174 : decode cX12_agree 174 = .ok (.iload 7, 2) := by decide +kernel
theorem dX12_agree_176 : decode cX12_agree 176 = .ok (.iload 8, 2) := by decide +kernel
theorem dX12_agree_178 : decode cX12_agree 178 = .ok (.iadd, 1) := by decide +kernel
theorem dX12_agree_179 : decode cX12_agree 179 = .ok (.iload 5, 2) := by decide +kernel
theorem dX12_agree_181 : decode cX12_agree 181 = .ok (.if_icmp .le 7, 3) := by decide +kernel
theorem dX12_agree_84 : decode cX12_agree 84 = .ok (.iload 7, 2) := by decide +kernel
theorem dX12_agree_86 : decode cX12_agree 86 = .ok (.iload 6, 2) := by decide +kernel
theorem dX12_agree_88 : decode cX12_agree 88 = .ok (.iload 10, 2) := by decide +kernel
theorem dX12_agree_90 : decode cX12_agree 90 = .ok (.ishr, 1) := by decide +kernel
theorem dX12_agree_91 : decode cX12_agree 91 = .ok (.iconst 1, 1) := by decide +kernel
theorem dX12_agree_92 : decode cX12_agree 92 = .ok (.iand, 1) := by decide +kernel
theorem dX12_agree_93 : decode cX12_agree 93 = .ok (.aload_n 0, 1) := by decide +kernel
theorem dX12_agree_94 : decode cX12_agree 94 = .ok (.getfield 8, 3) := by decide +kernel
theorem dX12_agree_97 : decode cX12_agree 97 = .ok (.sipush 1164, 3) := by decide +kernel
theorem dX12_agree_100 : decode cX12_agree 100 = .ok (.iconst 2, 1) := by decide +kernel
theorem dX12_agree_101 : decode cX12_agree 101 = .ok (.iload 10, 2) := by decide +kernel
theorem dX12_agree_103 : decode cX12_agree 103 = .ok (.imul, 1) := by decide +kernel
theorem dX12_agree_104 : decode cX12_agree 104 = .ok (.iadd, 1) := by decide +kernel
theorem dX12_agree_105 : decode cX12_agree 105 = .ok (.iaload, 1) := by decide +kernel
theorem dX12_agree_106 : decode cX12_agree 106 = .ok (.imul, 1) := by decide +kernel
theorem dX12_agree_107 : decode cX12_agree 107 = .ok (.iadd, 1) := by decide +kernel
theorem dX12_agree_108 : decode cX12_agree 108 = .ok (.istore 7, 2) := by decide +kernel
theorem dX12_agree_110 : decode cX12_agree 110 = .ok (.iload 8, 2) := by decide +kernel
theorem dX12_agree_112 : decode cX12_agree 112 = .ok (.iload 6, 2) := by decide +kernel
theorem dX12_agree_114 : decode cX12_agree 114 = .ok (.iload 10, 2) := by decide +kernel
theorem dX12_agree_116 : decode cX12_agree 116 = .ok (.ishr, 1) := by decide +kernel
theorem dX12_agree_117 : decode cX12_agree 117 = .ok (.iconst 1, 1) := by decide +kernel
theorem dX12_agree_118 : decode cX12_agree 118 = .ok (.iand, 1) := by decide +kernel
theorem dX12_agree_119 : decode cX12_agree 119 = .ok (.aload_n 0, 1) := by decide +kernel
theorem dX12_agree_120 : decode cX12_agree 120 = .ok (.getfield 8, 3) := by decide +kernel
theorem dX12_agree_123 : decode cX12_agree 123 = .ok (.sipush 1164, 3) := by decide +kernel
theorem dX12_agree_126 : decode cX12_agree 126 = .ok (.iconst 2, 1) := by decide +kernel
theorem dX12_agree_127 : decode cX12_agree 127 = .ok (.iload 10, 2) := by decide +kernel
theorem dX12_agree_129 : decode cX12_agree 129 = .ok (.imul, 1) := by decide +kernel
theorem dX12_agree_130 : decode cX12_agree 130 = .ok (.iadd, 1) := by decide +kernel
theorem dX12_agree_131 : decode cX12_agree 131 = .ok (.iconst 1, 1) := by decide +kernel
theorem dX12_agree_132 : decode cX12_agree 132 = .ok (.iadd, 1) := by decide +kernel
theorem dX12_agree_133 : decode cX12_agree 133 = .ok (.iaload, 1) := by decide +kernel
theorem dX12_agree_134 : decode cX12_agree 134 = .ok (.imul, 1) := by decide +kernel
theorem dX12_agree_135 : decode cX12_agree 135 = .ok (.iadd, 1) := by decide +kernel
theorem dX12_agree_136 : decode cX12_agree 136 = .ok (.istore 8, 2) := by decide +kernel
theorem dX12_agree_138 : decode cX12_agree 138 = .ok (.iload 9, 2) := by decide +kernel
theorem dX12_agree_140 : decode cX12_agree 140 = .ok (.iload 6, 2) := by decide +kernel
theorem dX12_agree_142 : decode cX12_agree 142 = .ok (.iload 10, 2) := by decide +kernel
theorem dX12_agree_144 : decode cX12_agree 144 = .ok (.ishr, 1) := by decide +kernel
theorem dX12_agree_145 : decode cX12_agree 145 = .ok (.iconst 1, 1) := by decide +kernel
theorem dX12_agree_146 : decode cX12_agree 146 = .ok (.iand, 1) := by decide +kernel
theorem dX12_agree_147 : decode cX12_agree 147 = .ok (.iadd, 1) := by decide +kernel
theorem dX12_agree_148 : decode cX12_agree 148 = .ok (.istore 9, 2) := by decide +kernel
theorem dX12_agree_150 : decode cX12_agree 150 = .ok (.iinc 10 1, 3) := by decide +kernel
theorem dX12_agree_153 : decode cX12_agree 153 = .ok (.goto (-81), 3) := by decide +kernel
theorem dX12_wish_0 : decode cX12_wish 0 = .ok (.aload_n 0, 1) := by decide +kernel
theorem dX12_wish_1 : decode cX12_wish 1 = .ok (.iconst 0, 1) := by decide +kernel
theorem dX12_wish_2 : decode cX12_wish 2 = .ok (.putfield 82, 3) := by decide +kernel
theorem dX12_wish_5 : decode cX12_wish 5 = .ok (.aload_n 0, 1) := by decide +kernel
theorem dX12_wish_6 : decode cX12_wish 6 = .ok (.iload_n 1, 1) := by decide +kernel
theorem dX12_wish_7 : decode cX12_wish 7 = .ok (.invokevirtual 141, 3) := by decide +kernel
theorem dX12_wish_10 : decode cX12_wish 10 = .ok (.ifCond .ne 10, 3) := by decide +kernel
theorem dX12_wish_20 : decode cX12_wish 20 = .ok (.aload_n 0, 1) := by decide +kernel
theorem dX12_wish_21 : decode cX12_wish 21 = .ok (.getfield 8, 3) := by decide +kernel
theorem dX12_wish_24 : decode cX12_wish 24 = .ok (.iload_n 1, 1) := by decide +kernel
theorem dX12_wish_25 : decode cX12_wish 25 = .ok (.invokestatic 135, 3) := by decide +kernel
theorem dX12_wish_28 : decode cX12_wish 28 = .ok (.iconst 3, 1) := by decide +kernel
theorem dX12_wish_29 : decode cX12_wish 29 = .ok (.iadd, 1) := by decide +kernel
theorem dX12_wish_30 : decode cX12_wish 30 = .ok (.iaload, 1) := by decide +kernel
theorem dX12_wish_31 : decode cX12_wish 31 = .ok (.iconst (-1), 1) := by decide +kernel
theorem dX12_wish_32 : decode cX12_wish 32 = .ok (.if_icmp .ne 10, 3) := by decide +kernel
theorem dX12_wish_42 : decode cX12_wish 42 = .ok (.iconst 0, 1) := by decide +kernel
theorem dX12_wish_43 : decode cX12_wish 43 = .ok (.istore_n 2, 1) := by decide +kernel
theorem dX12_wish_44 : decode cX12_wish 44 = .ok (.iload_n 2, 1) := by decide +kernel
theorem dX12_wish_45 : decode cX12_wish 45 = .ok (.aload_n 0, 1) := by decide +kernel
theorem dX12_wish_46 : decode cX12_wish 46 = .ok (.getfield 446, 3) := by decide +kernel
theorem dX12_wish_49 : decode cX12_wish 49 = .ok (.if_icmp .ge 26, 3) := by decide +kernel
theorem dX12_wish_75 : decode cX12_wish 75 = .ok (.aload_n 0, 1) := by decide +kernel
theorem dX12_wish_76 : decode cX12_wish 76 = .ok (.getfield 446, 3) := by decide +kernel
theorem dX12_wish_79 : decode cX12_wish 79 = .ok (.bipush 6, 2) := by decide +kernel
theorem dX12_wish_81 : decode cX12_wish 81 = .ok (.if_icmp .ne 10, 3) := by decide +kernel
theorem dX12_wish_91 : decode cX12_wish 91 = .ok (.aload_n 0, 1) := by decide +kernel
theorem dX12_wish_92 : decode cX12_wish 92 = .ok (.getfield 73, 3) := by decide +kernel
theorem dX12_wish_95 : decode cX12_wish 95 = .ok (.aload_n 0, 1) := by decide +kernel
theorem dX12_wish_96 : decode cX12_wish 96 = .ok (.getfield 446, 3) := by decide +kernel
theorem dX12_wish_99 : decode cX12_wish 99 = .ok (.iload_n 1, 1) := by decide +kernel
theorem dX12_wish_100 : decode cX12_wish 100 = .ok (.iastore, 1) := by decide +kernel
theorem dX12_wish_101 : decode cX12_wish 101 = .ok (.aload_n 0, 1) := by decide +kernel
theorem dX12_wish_102 : decode cX12_wish 102 = .ok (.dup, 1) := by decide +kernel
theorem dX12_wish_103 : decode cX12_wish 103 = .ok (.getfield 446, 3) := by decide +kernel
theorem dX12_wish_106 : decode cX12_wish 106 = .ok (.iconst 1, 1) := by decide +kernel
theorem dX12_wish_107 : decode cX12_wish 107 = .ok (.iadd, 1) := by decide +kernel
theorem dX12_wish_108 : decode cX12_wish 108 = .ok (.putfield 446, 3) := by decide +kernel
theorem dX12_wish_111 : decode cX12_wish 111 = .ok (.aload_n 0, 1) := by decide +kernel
theorem dX12_wish_112 : decode cX12_wish 112 = .ok (.aload_n 0, 1) := by decide +kernel
theorem dX12_wish_113 : decode cX12_wish 113 = .ok (.getfield 446, 3) := by decide +kernel
theorem dX12_wish_116 : decode cX12_wish 116 = .ok (.invokevirtual 94, 3) := by decide +kernel
theorem dX12_wish_119 : decode cX12_wish 119 = .ok (.ireturn, 1) := by decide +kernel
theorem dX12_wish_84 : decode cX12_wish 84 = .ok (.aload_n 0, 1) := by decide +kernel
theorem dX12_wish_85 : decode cX12_wish 85 = .ok (.bipush (-5), 2) := by decide +kernel
theorem dX12_wish_87 : decode cX12_wish 87 = .ok (.invokevirtual 94, 3) := by decide +kernel
theorem dX12_wish_90 : decode cX12_wish 90 = .ok (.ireturn, 1) := by decide +kernel
theorem dX12_wish_52 : decode cX12_wish 52 = .ok (.aload_n 0, 1) := by decide +kernel
theorem dX12_wish_53 : decode cX12_wish 53 = .ok (.getfield 73, 3) := by decide +kernel
theorem dX12_wish_56 : decode cX12_wish 56 = .ok (.iload_n 2, 1) := by decide +kernel
theorem dX12_wish_57 : decode cX12_wish 57 = .ok (.iaload, 1) := by decide +kernel
theorem dX12_wish_58 : decode cX12_wish 58 = .ok (.iload_n 1, 1) := by decide +kernel
theorem dX12_wish_59 : decode cX12_wish 59 = .ok (.if_icmp .ne 10, 3) := by decide +kernel
theorem dX12_wish_69 : decode cX12_wish 69 = .ok (.iinc 2 1, 3) := by decide +kernel
theorem dX12_wish_72 : decode cX12_wish 72 = .ok (.goto (-28), 3) := by decide +kernel
theorem dX12_wish_62 : decode cX12_wish 62 = .ok (.aload_n 0, 1) := by decide +kernel
theorem dX12_wish_63 : decode cX12_wish 63 = .ok (.bipush (-4), 2) := by decide +kernel
theorem dX12_wish_65 : decode cX12_wish 65 = .ok (.invokevirtual 94, 3) := by decide +kernel
theorem dX12_wish_68 : decode cX12_wish 68 = .ok (.ireturn, 1) := by decide +kernel
theorem dX12_wish_35 : decode cX12_wish 35 = .ok (.aload_n 0, 1) := by decide +kernel
theorem dX12_wish_36 : decode cX12_wish 36 = .ok (.bipush (-3), 2) := by decide +kernel
theorem dX12_wish_38 : decode cX12_wish 38 = .ok (.invokevirtual 94, 3) := by decide +kernel
theorem dX12_wish_41 : decode cX12_wish 41 = .ok (.ireturn, 1) := by decide +kernel
theorem dX12_wish_13 : decode cX12_wish 13 = .ok (.aload_n 0, 1) := by decide +kernel
theorem dX12_wish_14 : decode cX12_wish 14 = .ok (.bipush (-2), 2) := by decide +kernel
theorem dX12_wish_16 : decode cX12_wish 16 = .ok (.invokevirtual 94, 3) := by decide +kernel
theorem dX12_wish_19 : decode cX12_wish 19 = .ok (.ireturn, 1) := by decide +kernel
theorem dX12_clear_0 : decode cX12_clear 0 = .ok (.aload_n 0, 1) := by decide +kernel
theorem dX12_clear_1 : decode cX12_clear 1 = .ok (.iconst 0, 1) := by decide +kernel
theorem dX12_clear_2 : decode cX12_clear 2 = .ok (.putfield 82, 3) := by decide +kernel
theorem dX12_clear_5 : decode cX12_clear 5 = .ok (.aload_n 0, 1) := by decide +kernel
theorem dX12_clear_6 : decode cX12_clear 6 = .ok (.getfield 446, 3) := by decide +kernel
theorem dX12_clear_9 : decode cX12_clear 9 = .ok (.istore_n 1, 1) := by decide +kernel
theorem dX12_clear_10 : decode cX12_clear 10 = .ok (.aload_n 0, 1) := by decide +kernel
theorem dX12_clear_11 : decode cX12_clear 11 = .ok (.iconst 0, 1) := by decide +kernel
theorem dX12_clear_12 : decode cX12_clear 12 = .ok (.putfield 446, 3) := by decide +kernel
theorem dX12_clear_15 : decode cX12_clear 15 = .ok (.aload_n 0, 1) := by decide +kernel
theorem dX12_clear_16 : decode cX12_clear 16 = .ok (.iconst 0, 1) := by decide +kernel
theorem dX12_clear_17 : decode cX12_clear 17 = .ok (.putfield 504, 3) := by decide +kernel
theorem dX12_clear_20 : decode cX12_clear 20 = .ok (.iload_n 1, 1) := by decide +kernel
theorem dX12_clear_21 : decode cX12_clear 21 = .ok (.ireturn, 1) := by decide +kernel
theorem dX12_crops_0 : decode cX12_crops 0 = .ok (.aload_n 0, 1) := by decide +kernel
theorem dX12_crops_1 : decode cX12_crops 1 = .ok (.iconst 0, 1) := by decide +kernel
theorem dX12_crops_2 : decode cX12_crops 2 = .ok (.putfield 82, 3) := by decide +kernel
theorem dX12_crops_5 : decode cX12_crops 5 = .ok (.iload_n 1, 1) := by decide +kernel
theorem dX12_crops_6 : decode cX12_crops 6 = .ok (.i2l, 1) := by decide +kernel
theorem dX12_crops_7 : decode cX12_crops 7 = .ok (.lconst 0, 1) := by decide +kernel
theorem dX12_crops_8 : decode cX12_crops 8 = .ok (.ldc2_w 159, 3) := by decide +kernel
theorem dX12_crops_11 : decode cX12_crops 11 = .ok (.invokestatic 90, 3) := by decide +kernel
theorem dX12_crops_14 : decode cX12_crops 14 = .ok (.ifCond .eq 15, 3) := by decide +kernel
theorem dX12_crops_29 : decode cX12_crops 29 = .ok (.aload_n 0, 1) := by decide +kernel
theorem dX12_crops_30 : decode cX12_crops 30 = .ok (.iconst (-1), 1) := by decide +kernel
theorem dX12_crops_31 : decode cX12_crops 31 = .ok (.invokevirtual 94, 3) := by decide +kernel
theorem dX12_crops_34 : decode cX12_crops 34 = .ok (.ireturn, 1) := by decide +kernel
theorem dX12_crops_17 : decode cX12_crops 17 = .ok (.iload_n 2, 1) := by decide +kernel
theorem dX12_crops_18 : decode cX12_crops 18 = .ok (.i2l, 1) := by decide +kernel
theorem dX12_crops_19 : decode cX12_crops 19 = .ok (.lconst 0, 1) := by decide +kernel
theorem dX12_crops_20 : decode cX12_crops 20 = .ok (.ldc2_w 159, 3) := by decide +kernel
theorem dX12_crops_23 : decode cX12_crops 23 = .ok (.invokestatic 90, 3) := by decide +kernel
theorem dX12_crops_26 : decode cX12_crops 26 = .ok (.ifCond .ne 9, 3) := by decide +kernel
theorem dX12_crops_35 : decode cX12_crops 35 = .ok (.aload_n 0, 1) := by decide +kernel
theorem dX12_crops_36 : decode cX12_crops 36 = .ok (.getfield 504, 3) := by decide +kernel
theorem dX12_crops_39 : decode cX12_crops 39 = .ok (.iconst 3, 1) := by decide +kernel
theorem dX12_crops_40 : decode cX12_crops 40 = .ok (.if_icmp .ne 10, 3) := by decide +kernel
theorem dX12_crops_50 : decode cX12_crops 50 = .ok (.aload_n 0, 1) := by decide +kernel
theorem dX12_crops_51 : decode cX12_crops 51 = .ok (.getfield 76, 3) := by decide +kernel
theorem dX12_crops_54 : decode cX12_crops 54 = .ok (.aload_n 0, 1) := by decide +kernel
theorem dX12_crops_55 : decode cX12_crops 55 = .ok (.getfield 504, 3) := by decide +kernel
theorem dX12_crops_58 : decode cX12_crops 58 = .ok (.iload_n 1, 1) := by decide +kernel
theorem dX12_crops_59 : decode cX12_crops 59 = .ok (.iastore, 1) := by decide +kernel
theorem dX12_crops_60 : decode cX12_crops 60 = .ok (.aload_n 0, 1) := by decide +kernel
theorem dX12_crops_61 : decode cX12_crops 61 = .ok (.getfield 79, 3) := by decide +kernel
theorem dX12_crops_64 : decode cX12_crops 64 = .ok (.aload_n 0, 1) := by decide +kernel
theorem dX12_crops_65 : decode cX12_crops 65 = .ok (.getfield 504, 3) := by decide +kernel
theorem dX12_crops_68 : decode cX12_crops 68 = .ok (.iload_n 2, 1) := by decide +kernel
theorem dX12_crops_69 : decode cX12_crops 69 = .ok (.iastore, 1) := by decide +kernel
theorem dX12_crops_70 : decode cX12_crops 70 = .ok (.aload_n 0, 1) := by decide +kernel
theorem dX12_crops_71 : decode cX12_crops 71 = .ok (.dup, 1) := by decide +kernel
theorem dX12_crops_72 : decode cX12_crops 72 = .ok (.getfield 504, 3) := by decide +kernel
theorem dX12_crops_75 : decode cX12_crops 75 = .ok (.iconst 1, 1) := by decide +kernel
theorem dX12_crops_76 : decode cX12_crops 76 = .ok (.iadd, 1) := by decide +kernel
theorem dX12_crops_77 : decode cX12_crops 77 = .ok (.putfield 504, 3) := by decide +kernel
theorem dX12_crops_80 : decode cX12_crops 80 = .ok (.aload_n 0, 1) := by decide +kernel
theorem dX12_crops_81 : decode cX12_crops 81 = .ok (.aload_n 0, 1) := by decide +kernel
theorem dX12_crops_82 : decode cX12_crops 82 = .ok (.getfield 504, 3) := by decide +kernel
theorem dX12_crops_85 : decode cX12_crops 85 = .ok (.invokevirtual 94, 3) := by decide +kernel
theorem dX12_crops_88 : decode cX12_crops 88 = .ok (.ireturn, 1) := by decide +kernel
theorem dX12_crops_43 : decode cX12_crops 43 = .ok (.aload_n 0, 1) := by decide +kernel
theorem dX12_crops_44 : decode cX12_crops 44 = .ok (.bipush (-5), 2) := by decide +kernel
theorem dX12_crops_46 : decode cX12_crops 46 = .ok (.invokevirtual 94, 3) := by decide +kernel
theorem dX12_crops_49 : decode cX12_crops 49 = .ok (.ireturn, 1) := by decide +kernel
theorem dX12_isSpan_0 : decode cX12_isSpan 0 = .ok (.iload_n 1, 1) := by decide +kernel
theorem dX12_isSpan_1 : decode cX12_isSpan 1 = .ok (.i2l, 1) := by decide +kernel
theorem dX12_isSpan_2 : decode cX12_isSpan 2 = .ok (.lconst 1, 1) := by decide +kernel
theorem dX12_isSpan_3 : decode cX12_isSpan 3 = .ok (.ldc2_w 479, 3) := by decide +kernel
theorem dX12_isSpan_6 : decode cX12_isSpan 6 = .ok (.invokestatic 90, 3) := by decide +kernel
theorem dX12_isSpan_9 : decode cX12_isSpan 9 = .ok (.ifCond .eq 22, 3) := by decide +kernel
theorem dX12_isSpan_31 : decode cX12_isSpan 31 = .ok (.iconst 0, 1) := by decide +kernel
theorem dX12_isSpan_32 : decode cX12_isSpan 32 = .ok (.ireturn, 1) := by decide +kernel
theorem dX12_isSpan_12 : decode cX12_isSpan 12 = .ok (.aload_n 0, 1) := by decide +kernel
theorem dX12_isSpan_13 : decode cX12_isSpan 13 = .ok (.getfield 8, 3) := by decide +kernel
theorem dX12_isSpan_16 : decode cX12_isSpan 16 = .ok (.bipush 8, 2) := by decide +kernel
theorem dX12_isSpan_18 : decode cX12_isSpan 18 = .ok (.iaload, 1) := by decide +kernel
theorem dX12_isSpan_19 : decode cX12_isSpan 19 = .ok (.iload_n 1, 1) := by decide +kernel
theorem dX12_isSpan_20 : decode cX12_isSpan 20 = .ok (.iadd, 1) := by decide +kernel
theorem dX12_isSpan_21 : decode cX12_isSpan 21 = .ok (.sipush 399, 3) := by decide +kernel
theorem dX12_isSpan_24 : decode cX12_isSpan 24 = .ok (.if_icmp .gt 7, 3) := by decide +kernel
theorem dX12_isSpan_27 : decode cX12_isSpan 27 = .ok (.iconst 1, 1) := by decide +kernel
theorem dX12_isSpan_28 : decode cX12_isSpan 28 = .ok (.goto 4, 3) := by decide +kernel
theorem dX12_areThere_0 : decode cX12_areThere 0 = .ok (.iconst 1, 1) := by decide +kernel
theorem dX12_areThere_1 : decode cX12_areThere 1 = .ok (.istore_n 1, 1) := by decide +kernel
theorem dX12_areThere_2 : decode cX12_areThere 2 = .ok (.iconst 0, 1) := by decide +kernel
theorem dX12_areThere_3 : decode cX12_areThere 3 = .ok (.istore_n 2, 1) := by decide +kernel
theorem dX12_areThere_4 : decode cX12_areThere 4 = .ok (.iload_n 2, 1) := by decide +kernel
theorem dX12_areThere_5 : decode cX12_areThere 5 = .ok (.aload_n 0, 1) := by decide +kernel
theorem dX12_areThere_6 : decode cX12_areThere 6 = .ok (.getfield 446, 3) := by decide +kernel
theorem dX12_areThere_9 : decode cX12_areThere 9 = .ok (.if_icmp .ge 32, 3) := by decide +kernel
theorem dX12_areThere_41 : decode cX12_areThere 41 = .ok (.iload_n 1, 1) := by decide +kernel
theorem dX12_areThere_42 : decode cX12_areThere 42 = .ok (.ireturn, 1) := by decide +kernel
theorem dX12_areThere_12 : decode cX12_areThere 12 = .ok (.iload_n 1, 1) := by decide +kernel
theorem dX12_areThere_13 : decode cX12_areThere 13 = .ok (.ifCond .eq 20, 3) := by decide +kernel
theorem dX12_areThere_34 : decode cX12_areThere 34 = .ok (.istore_n 1, 1) := by decide +kernel
theorem dX12_areThere_35 : decode cX12_areThere 35 = .ok (.iinc 2 1, 3) := by decide +kernel
theorem dX12_areThere_38 : decode cX12_areThere 38 = .ok (.goto (-34), 3) := by decide +kernel
theorem dX12_areThere_33 : decode cX12_areThere 33 = .ok (.iconst 0, 1) := by decide +kernel
theorem dX12_areThere_16 : decode cX12_areThere 16 = .ok (.aload_n 0, 1) := by decide +kernel
theorem dX12_areThere_17 : decode cX12_areThere 17 = .ok (.aload_n 0, 1) := by decide +kernel
theorem dX12_areThere_18 : decode cX12_areThere 18 = .ok (.getfield 73, 3) := by decide +kernel
theorem dX12_areThere_21 : decode cX12_areThere 21 = .ok (.iload_n 2, 1) := by decide +kernel
theorem dX12_areThere_22 : decode cX12_areThere 22 = .ok (.iaload, 1) := by decide +kernel
theorem dX12_areThere_23 : decode cX12_areThere 23 = .ok (.invokevirtual 141, 3) := by decide +kernel
theorem dX12_areThere_26 : decode cX12_areThere 26 = .ok (.ifCond .eq 7, 3) := by decide +kernel
theorem dX12_areThere_29 : decode cX12_areThere 29 = .ok (.iconst 1, 1) := by decide +kernel
theorem dX12_areThere_30 : decode cX12_areThere 30 = .ok (.goto 4, 3) := by decide +kernel
theorem dX12_chosen_0 : decode cX12_chosen 0 = .ok (.aload_n 0, 1) := by decide +kernel
theorem dX12_chosen_1 : decode cX12_chosen 1 = .ok (.iconst 0, 1) := by decide +kernel
theorem dX12_chosen_2 : decode cX12_chosen 2 = .ok (.putfield 82, 3) := by decide +kernel
theorem dX12_chosen_5 : decode cX12_chosen 5 = .ok (.aload_n 0, 1) := by decide +kernel
theorem dX12_chosen_6 : decode cX12_chosen 6 = .ok (.getfield 525, 3) := by decide +kernel
theorem dX12_chosen_9 : decode cX12_chosen 9 = .ok (.ifCond .eq 30, 3) := by decide +kernel
theorem dX12_chosen_40 : decode cX12_chosen 40 = .ok (.ireturn, 1) := by decide +kernel
theorem dX12_chosen_39 : decode cX12_chosen 39 = .ok (.iconst (-1), 1) := by decide +kernel
theorem dX12_chosen_12 : decode cX12_chosen 12 = .ok (.iload_n 1, 1) := by decide +kernel
theorem dX12_chosen_13 : decode cX12_chosen 13 = .ok (.i2l, 1) := by decide +kernel
theorem dX12_chosen_14 : decode cX12_chosen 14 = .ok (.lconst 0, 1) := by decide +kernel
theorem dX12_chosen_15 : decode cX12_chosen 15 = .ok (.aload_n 0, 1) := by decide +kernel
theorem dX12_chosen_16 : decode cX12_chosen 16 = .ok (.getfield 528, 3) := by decide +kernel
theorem dX12_chosen_19 : decode cX12_chosen 19 = .ok (.i2l, 1) := by decide +kernel
theorem dX12_chosen_20 : decode cX12_chosen 20 = .ok (.lconst 1, 1) := by decide +kernel
theorem dX12_chosen_21 : decode cX12_chosen 21 = .ok (.lsub, 1) := by decide +kernel
theorem dX12_chosen_22 : decode cX12_chosen 22 = .ok (.invokestatic 90, 3) := by decide +kernel
theorem dX12_chosen_25 : decode cX12_chosen 25 = .ok (.ifCond .eq 14, 3) := by decide +kernel
theorem dX12_chosen_28 : decode cX12_chosen 28 = .ok (.aload_n 0, 1) := by decide +kernel
theorem dX12_chosen_29 : decode cX12_chosen 29 = .ok (.getfield 522, 3) := by decide +kernel
theorem dX12_chosen_32 : decode cX12_chosen 32 = .ok (.iload_n 1, 1) := by decide +kernel
theorem dX12_chosen_33 : decode cX12_chosen 33 = .ok (.ishr, 1) := by decide +kernel
theorem dX12_chosen_34 : decode cX12_chosen 34 = .ok (.iconst 1, 1) := by decide +kernel
theorem dX12_chosen_35 : decode cX12_chosen 35 = .ok (.iand, 1) := by decide +kernel
theorem dX12_chosen_36 : decode cX12_chosen 36 = .ok (.goto 4, 3) := by decide +kernel
theorem dX12_addFields_0 : decode cX12_addFields 0 = .ok (.aload_n 0, 1) := by decide +kernel
theorem dX12_addFields_1 : decode cX12_addFields 1 = .ok (.iconst 0, 1) := by decide +kernel
theorem dX12_addFields_2 : decode cX12_addFields 2 = .ok (.putfield 537, 3) := by decide +kernel
theorem dX12_addFields_5 : decode cX12_addFields 5 = .ok (.aload_n 0, 1) := by decide +kernel
theorem dX12_addFields_6 : decode cX12_addFields 6 = .ok (.iconst 0, 1) := by decide +kernel
theorem dX12_addFields_7 : decode cX12_addFields 7 = .ok (.putfield 540, 3) := by decide +kernel
theorem dX12_addFields_10 : decode cX12_addFields 10 = .ok (.iconst 0, 1) := by decide +kernel
theorem dX12_addFields_11 : decode cX12_addFields 11 = .ok (.istore_n 1, 1) := by decide +kernel
theorem dX12_addFields_12 : decode cX12_addFields 12 = .ok (.iload_n 1, 1) := by decide +kernel
theorem dX12_addFields_13 : decode cX12_addFields 13 = .ok (.aload_n 0, 1) := by decide +kernel
theorem dX12_addFields_14 : decode cX12_addFields 14 = .ok (.getfield 8, 3) := by decide +kernel
theorem dX12_addFields_17 : decode cX12_addFields 17 = .ok (.iconst 2, 1) := by decide +kernel
theorem dX12_addFields_18 : decode cX12_addFields 18 = .ok (.iaload, 1) := by decide +kernel
theorem dX12_addFields_19 : decode cX12_addFields 19 = .ok (.if_icmp .ge 53, 3) := by decide +kernel
theorem dX12_addFields_72 : decode cX12_addFields 72 = .ok (.return_, 1) := by decide +kernel
theorem dX12_addFields_22 : decode cX12_addFields 22 = .ok (.aload_n 0, 1) := by decide +kernel
theorem dX12_addFields_23 : decode cX12_addFields 23 = .ok (.dup, 1) := by decide +kernel
theorem dX12_addFields_24 : decode cX12_addFields 24 = .ok (.getfield 537, 3) := by decide +kernel
theorem dX12_addFields_27 : decode cX12_addFields 27 = .ok (.aload_n 0, 1) := by decide +kernel
theorem dX12_addFields_28 : decode cX12_addFields 28 = .ok (.getfield 8, 3) := by decide +kernel
theorem dX12_addFields_31 : decode cX12_addFields 31 = .ok (.iload_n 1, 1) := by decide +kernel
theorem dX12_addFields_32 : decode cX12_addFields 32 = .ok (.invokestatic 135, 3) := by decide +kernel
theorem dX12_addFields_35 : decode cX12_addFields 35 = .ok (.iconst 2, 1) := by decide +kernel
theorem dX12_addFields_36 : decode cX12_addFields 36 = .ok (.iadd, 1) := by decide +kernel
theorem dX12_addFields_37 : decode cX12_addFields 37 = .ok (.iaload, 1) := by decide +kernel
theorem dX12_addFields_38 : decode cX12_addFields 38 = .ok (.iadd, 1) := by decide +kernel
theorem dX12_addFields_39 : decode cX12_addFields 39 = .ok (.putfield 537, 3) := by decide +kernel
theorem dX12_addFields_42 : decode cX12_addFields 42 = .ok (.aload_n 0, 1) := by decide +kernel
theorem dX12_addFields_43 : decode cX12_addFields 43 = .ok (.dup, 1) := by decide +kernel
theorem dX12_addFields_44 : decode cX12_addFields 44 = .ok (.getfield 540, 3) := by decide +kernel
theorem dX12_addFields_47 : decode cX12_addFields 47 = .ok (.aload_n 0, 1) := by decide +kernel
theorem dX12_addFields_48 : decode cX12_addFields 48 = .ok (.getfield 8, 3) := by decide +kernel
theorem dX12_addFields_51 : decode cX12_addFields 51 = .ok (.iload_n 1, 1) := by decide +kernel
theorem dX12_addFields_52 : decode cX12_addFields 52 = .ok (.invokestatic 135, 3) := by decide +kernel
theorem dX12_addFields_55 : decode cX12_addFields 55 = .ok (.iconst 2, 1) := by decide +kernel
theorem dX12_addFields_56 : decode cX12_addFields 56 = .ok (.iadd, 1) := by decide +kernel
theorem dX12_addFields_57 : decode cX12_addFields 57 = .ok (.iaload, 1) := by decide +kernel
theorem dX12_addFields_58 : decode cX12_addFields 58 = .ok (.iload_n 1, 1) := by decide +kernel
theorem dX12_addFields_59 : decode cX12_addFields 59 = .ok (.iconst 1, 1) := by decide +kernel
theorem dX12_addFields_60 : decode cX12_addFields 60 = .ok (.iadd, 1) := by decide +kernel
theorem dX12_addFields_61 : decode cX12_addFields 61 = .ok (.imul, 1) := by decide +kernel
theorem dX12_addFields_62 : decode cX12_addFields 62 = .ok (.iadd, 1) := by decide +kernel
theorem dX12_addFields_63 : decode cX12_addFields 63 = .ok (.putfield 540, 3) := by decide +kernel
theorem dX12_addFields_66 : decode cX12_addFields 66 = .ok (.iinc 1 1, 3) := by decide +kernel
theorem dX12_addFields_69 : decode cX12_addFields 69 = .ok (.goto (-57), 3) := by decide +kernel
theorem dX12_seal_0 : decode cX12_seal 0 = .ok (.aload_n 0, 1) := by decide +kernel
theorem dX12_seal_1 : decode cX12_seal 1 = .ok (.iconst 0, 1) := by decide +kernel
theorem dX12_seal_2 : decode cX12_seal 2 = .ok (.putfield 82, 3) := by decide +kernel
theorem dX12_seal_5 : decode cX12_seal 5 = .ok (.aload_n 0, 1) := by decide +kernel
theorem dX12_seal_6 : decode cX12_seal 6 = .ok (.invokevirtual 543, 3) := by decide +kernel
theorem dX12_seal_9 : decode cX12_seal 9 = .ok (.aload_n 0, 1) := by decide +kernel
theorem dX12_seal_10 : decode cX12_seal 10 = .ok (.getfield 8, 3) := by decide +kernel
theorem dX12_seal_13 : decode cX12_seal 13 = .ok (.bipush 11, 2) := by decide +kernel
theorem dX12_seal_15 : decode cX12_seal 15 = .ok (.aload_n 0, 1) := by decide +kernel
theorem dX12_seal_16 : decode cX12_seal 16 = .ok (.getfield 8, 3) := by decide +kernel
theorem dX12_seal_19 : decode cX12_seal 19 = .ok (.iconst 2, 1) := by decide +kernel
theorem dX12_seal_20 : decode cX12_seal 20 = .ok (.iaload, 1) := by decide +kernel
theorem dX12_seal_21 : decode cX12_seal 21 = .ok (.iconst 1, 1) := by decide +kernel
theorem dX12_seal_22 : decode cX12_seal 22 = .ok (.iadd, 1) := by decide +kernel
theorem dX12_seal_23 : decode cX12_seal 23 = .ok (.iastore, 1) := by decide +kernel
theorem dX12_seal_24 : decode cX12_seal 24 = .ok (.aload_n 0, 1) := by decide +kernel
theorem dX12_seal_25 : decode cX12_seal 25 = .ok (.getfield 8, 3) := by decide +kernel
theorem dX12_seal_28 : decode cX12_seal 28 = .ok (.bipush 12, 2) := by decide +kernel
theorem dX12_seal_30 : decode cX12_seal 30 = .ok (.aload_n 0, 1) := by decide +kernel
theorem dX12_seal_31 : decode cX12_seal 31 = .ok (.getfield 537, 3) := by decide +kernel
theorem dX12_seal_34 : decode cX12_seal 34 = .ok (.iastore, 1) := by decide +kernel
theorem dX12_seal_35 : decode cX12_seal 35 = .ok (.aload_n 0, 1) := by decide +kernel
theorem dX12_seal_36 : decode cX12_seal 36 = .ok (.getfield 8, 3) := by decide +kernel
theorem dX12_seal_39 : decode cX12_seal 39 = .ok (.bipush 13, 2) := by decide +kernel
theorem dX12_seal_41 : decode cX12_seal 41 = .ok (.aload_n 0, 1) := by decide +kernel
theorem dX12_seal_42 : decode cX12_seal 42 = .ok (.getfield 540, 3) := by decide +kernel
theorem dX12_seal_45 : decode cX12_seal 45 = .ok (.iastore, 1) := by decide +kernel
theorem dX12_seal_46 : decode cX12_seal 46 = .ok (.aload_n 0, 1) := by decide +kernel
theorem dX12_seal_47 : decode cX12_seal 47 = .ok (.getfield 8, 3) := by decide +kernel
theorem dX12_seal_50 : decode cX12_seal 50 = .ok (.iconst 2, 1) := by decide +kernel
theorem dX12_seal_51 : decode cX12_seal 51 = .ok (.iaload, 1) := by decide +kernel
theorem dX12_seal_52 : decode cX12_seal 52 = .ok (.ireturn, 1) := by decide +kernel
theorem dX12_alter_0 : decode cX12_alter 0 = .ok (.aload_n 0, 1) := by decide +kernel
theorem dX12_alter_1 : decode cX12_alter 1 = .ok (.iconst 0, 1) := by decide +kernel
theorem dX12_alter_2 : decode cX12_alter 2 = .ok (.putfield 82, 3) := by decide +kernel
theorem dX12_alter_5 : decode cX12_alter 5 = .ok (.iload_n 2, 1) := by decide +kernel
theorem dX12_alter_6 : decode cX12_alter 6 = .ok (.i2l, 1) := by decide +kernel
theorem dX12_alter_7 : decode cX12_alter 7 = .ok (.lconst 1, 1) := by decide +kernel
theorem dX12_alter_8 : decode cX12_alter 8 = .ok (.ldc2_w 546, 3) := by decide +kernel
theorem dX12_alter_11 : decode cX12_alter 11 = .ok (.invokestatic 90, 3) := by decide +kernel
theorem dX12_alter_14 : decode cX12_alter 14 = .ok (.ifCond .ne 9, 3) := by decide +kernel
theorem dX12_alter_23 : decode cX12_alter 23 = .ok (.aload_n 0, 1) := by decide +kernel
theorem dX12_alter_24 : decode cX12_alter 24 = .ok (.iload_n 1, 1) := by decide +kernel
theorem dX12_alter_25 : decode cX12_alter 25 = .ok (.invokevirtual 141, 3) := by decide +kernel
theorem dX12_alter_28 : decode cX12_alter 28 = .ok (.ifCond .ne 10, 3) := by decide +kernel
theorem dX12_alter_38 : decode cX12_alter 38 = .ok (.aload_n 0, 1) := by decide +kernel
theorem dX12_alter_39 : decode cX12_alter 39 = .ok (.getfield 8, 3) := by decide +kernel
theorem dX12_alter_42 : decode cX12_alter 42 = .ok (.iload_n 1, 1) := by decide +kernel
theorem dX12_alter_43 : decode cX12_alter 43 = .ok (.invokestatic 135, 3) := by decide +kernel
theorem dX12_alter_46 : decode cX12_alter 46 = .ok (.iconst 2, 1) := by decide +kernel
theorem dX12_alter_47 : decode cX12_alter 47 = .ok (.iadd, 1) := by decide +kernel
theorem dX12_alter_48 : decode cX12_alter 48 = .ok (.dup2, 1) := by decide +kernel
theorem dX12_alter_49 : decode cX12_alter 49 = .ok (.iaload, 1) := by decide +kernel
theorem dX12_alter_50 : decode cX12_alter 50 = .ok (.iload_n 2, 1) := by decide +kernel
theorem dX12_alter_51 : decode cX12_alter 51 = .ok (.ixor, 1) := by decide +kernel
theorem dX12_alter_52 : decode cX12_alter 52 = .ok (.iastore, 1) := by decide +kernel
theorem dX12_alter_53 : decode cX12_alter 53 = .ok (.aload_n 0, 1) := by decide +kernel
theorem dX12_alter_54 : decode cX12_alter 54 = .ok (.iconst 0, 1) := by decide +kernel
theorem dX12_alter_55 : decode cX12_alter 55 = .ok (.putfield 85, 3) := by decide +kernel
theorem dX12_alter_58 : decode cX12_alter 58 = .ok (.aload_n 0, 1) := by decide +kernel
theorem dX12_alter_59 : decode cX12_alter 59 = .ok (.getfield 8, 3) := by decide +kernel
theorem dX12_alter_62 : decode cX12_alter 62 = .ok (.iload_n 1, 1) := by decide +kernel
theorem dX12_alter_63 : decode cX12_alter 63 = .ok (.invokestatic 135, 3) := by decide +kernel
theorem dX12_alter_66 : decode cX12_alter 66 = .ok (.iconst 2, 1) := by decide +kernel
theorem dX12_alter_67 : decode cX12_alter 67 = .ok (.iadd, 1) := by decide +kernel
theorem dX12_alter_68 : decode cX12_alter 68 = .ok (.iaload, 1) := by decide +kernel
theorem dX12_alter_69 : decode cX12_alter 69 = .ok (.ireturn, 1) := by decide +kernel
theorem dX12_alter_31 : decode cX12_alter 31 = .ok (.aload_n 0, 1) := by decide +kernel
theorem dX12_alter_32 : decode cX12_alter 32 = .ok (.bipush (-2), 2) := by decide +kernel
theorem dX12_alter_34 : decode cX12_alter 34 = .ok (.invokevirtual 94, 3) := by decide +kernel
theorem dX12_alter_37 : decode cX12_alter 37 = .ok (.ireturn, 1) := by decide +kernel
theorem dX12_alter_17 : decode cX12_alter 17 = .ok (.aload_n 0, 1) := by decide +kernel
theorem dX12_alter_18 : decode cX12_alter 18 = .ok (.iconst (-1), 1) := by decide +kernel
theorem dX12_alter_19 : decode cX12_alter 19 = .ok (.invokevirtual 94, 3) := by decide +kernel
theorem dX12_alter_22 : decode cX12_alter 22 = .ok (.ireturn, 1) := by decide +kernel
theorem dX12_found_0 : decode cX12_found 0 = .ok (.aload_n 0, 1) := by decide +kernel
theorem dX12_found_1 : decode cX12_found 1 = .ok (.iconst 0, 1) := by decide +kernel
theorem dX12_found_2 : decode cX12_found 2 = .ok (.putfield 82, 3) := by decide +kernel
theorem dX12_found_5 : decode cX12_found 5 = .ok (.aload_n 0, 1) := by decide +kernel
theorem dX12_found_6 : decode cX12_found 6 = .ok (.getfield 8, 3) := by decide +kernel
theorem dX12_found_9 : decode cX12_found 9 = .ok (.bipush 11, 2) := by decide +kernel
theorem dX12_found_11 : decode cX12_found 11 = .ok (.iaload, 1) := by decide +kernel
theorem dX12_found_12 : decode cX12_found 12 = .ok (.ifCond .ne 6, 3) := by decide +kernel
theorem dX12_found_18 : decode cX12_found 18 = .ok (.aload_n 0, 1) := by decide +kernel
theorem dX12_found_19 : decode cX12_found 19 = .ok (.getfield 8, 3) := by decide +kernel
theorem dX12_found_22 : decode cX12_found 22 = .ok (.bipush 11, 2) := by decide +kernel
theorem dX12_found_24 : decode cX12_found 24 = .ok (.iaload, 1) := by decide +kernel
theorem dX12_found_25 : decode cX12_found 25 = .ok (.aload_n 0, 1) := by decide +kernel
theorem dX12_found_26 : decode cX12_found 26 = .ok (.getfield 8, 3) := by decide +kernel
theorem dX12_found_29 : decode cX12_found 29 = .ok (.iconst 2, 1) := by decide +kernel
theorem dX12_found_30 : decode cX12_found 30 = .ok (.iaload, 1) := by decide +kernel
theorem dX12_found_31 : decode cX12_found 31 = .ok (.iconst 1, 1) := by decide +kernel
theorem dX12_found_32 : decode cX12_found 32 = .ok (.iadd, 1) := by decide +kernel
theorem dX12_found_33 : decode cX12_found 33 = .ok (.if_icmp .eq 6, 3) := by decide +kernel
theorem dX12_found_39 : decode cX12_found 39 = .ok (.aload_n 0, 1) := by decide +kernel
theorem dX12_found_40 : decode cX12_found 40 = .ok (.invokevirtual 543, 3) := by decide +kernel
theorem dX12_found_43 : decode cX12_found 43 = .ok (.aload_n 0, 1) := by decide +kernel
theorem dX12_found_44 : decode cX12_found 44 = .ok (.getfield 537, 3) := by decide +kernel
theorem dX12_found_47 : decode cX12_found 47 = .ok (.aload_n 0, 1) := by decide +kernel
theorem dX12_found_48 : decode cX12_found 48 = .ok (.getfield 8, 3) := by decide +kernel
theorem dX12_found_51 : decode cX12_found 51 = .ok (.bipush 12, 2) := by decide +kernel
theorem dX12_found_53 : decode cX12_found 53 = .ok (.iaload, 1) := by decide +kernel
theorem dX12_found_54 : decode cX12_found 54 = .ok (.isub, 1) := by decide +kernel
theorem dX12_found_55 : decode cX12_found 55 = .ok (.istore_n 1, 1) := by decide +kernel
theorem dX12_found_56 : decode cX12_found 56 = .ok (.aload_n 0, 1) := by decide +kernel
theorem dX12_found_57 : decode cX12_found 57 = .ok (.getfield 540, 3) := by decide +kernel
theorem dX12_found_60 : decode cX12_found 60 = .ok (.aload_n 0, 1) := by decide +kernel
theorem dX12_found_61 : decode cX12_found 61 = .ok (.getfield 8, 3) := by decide +kernel
theorem dX12_found_64 : decode cX12_found 64 = .ok (.bipush 13, 2) := by decide +kernel
theorem dX12_found_66 : decode cX12_found 66 = .ok (.iaload, 1) := by decide +kernel
theorem dX12_found_67 : decode cX12_found 67 = .ok (.isub, 1) := by decide +kernel
theorem dX12_found_68 : decode cX12_found 68 = .ok (.istore_n 2, 1) := by decide +kernel
theorem dX12_found_69 : decode cX12_found 69 = .ok (.iload_n 1, 1) := by decide +kernel
theorem dX12_found_70 : decode cX12_found 70 = .ok (.ifCond .ne 14, 3) := by decide +kernel
theorem dX12_found_84 : decode cX12_found 84 = .ok (.iconst 0, 1) := by decide +kernel
theorem dX12_found_85 : decode cX12_found 85 = .ok (.istore_n 3, 1) := by decide +kernel
theorem dX12_found_86 : decode cX12_found 86 = .ok (.iload_n 3, 1) := by decide +kernel
theorem dX12_found_87 : decode cX12_found 87 = .ok (.aload_n 0, 1) := by decide +kernel
theorem dX12_found_88 : decode cX12_found 88 = .ok (.getfield 8, 3) := by decide +kernel
theorem dX12_found_91 : decode cX12_found 91 = .ok (.iconst 2, 1) := by decide +kernel
theorem dX12_found_92 : decode cX12_found 92 = .ok (.iaload, 1) := by decide +kernel
theorem dX12_found_93 : decode cX12_found 93 = .ok (.if_icmp .ge 24, 3) := by decide +kernel
theorem dX12_found_117 : decode cX12_found 117 = .ok (.bipush (-2), 2) := by decide +kernel
theorem dX12_found_119 : decode cX12_found 119 = .ok (.ireturn, 1) := by decide +kernel
theorem dX12_found_96 : decode cX12_found 96 = .ok (.iload_n 1, 1) := by decide +kernel
theorem dX12_found_97 : decode cX12_found 97 = .ok (.i2l, 1) := by decide +kernel
theorem dX12_found_98 : decode cX12_found 98 = .ok (.iload_n 3, 1) := by decide +kernel
theorem dX12_found_99 : decode cX12_found 99 = .ok (.iconst 1, 1) := by decide +kernel
theorem dX12_found_100 : decode cX12_found 100 = .ok (.iadd, 1) := by decide +kernel
theorem dX12_found_101 : decode cX12_found 101 = .ok (.i2l, 1) := by decide +kernel
theorem dX12_found_102 : decode cX12_found 102 = .ok (.lmul, 1) := by decide +kernel
theorem dX12_found_103 : decode cX12_found 103 = .ok (.iload_n 2, 1) := by decide +kernel
theorem dX12_found_104 : decode cX12_found 104 = .ok (.i2l, 1) := by decide +kernel
theorem dX12_found_105 : decode cX12_found 105 = .ok (.lcmp, 1) := by decide +kernel
theorem dX12_found_106 : decode cX12_found 106 = .ok (.ifCond .ne 5, 3) := by decide +kernel
theorem dX12_found_111 : decode cX12_found 111 = .ok (.iinc 3 1, 3) := by decide +kernel
theorem dX12_found_114 : decode cX12_found 114 = .ok (.goto (-28), 3) := by decide +kernel
theorem dX12_found_109 : decode cX12_found 109 = .ok (.iload_n 3, 1) := by decide +kernel
theorem dX12_found_110 : decode cX12_found 110 = .ok (.ireturn, 1) := by decide +kernel
theorem dX12_found_73 : decode cX12_found 73 = .ok (.iload_n 2, 1) := by decide +kernel
theorem dX12_found_74 : decode cX12_found 74 = .ok (.ifCond .ne 7, 3) := by decide +kernel
theorem dX12_found_83 : decode cX12_found 83 = .ok (.ireturn, 1) := by decide +kernel
theorem dX12_found_81 : decode cX12_found 81 = .ok (.bipush (-2), 2) := by decide +kernel
theorem dX12_found_77 : decode cX12_found 77 = .ok (.iconst (-1), 1) := by decide +kernel
theorem dX12_found_78 : decode cX12_found 78 = .ok (.goto 5, 3) := by decide +kernel
theorem dX12_found_36 : decode cX12_found 36 = .ok (.bipush (-2), 2) := by decide +kernel
theorem dX12_found_38 : decode cX12_found 38 = .ok (.ireturn, 1) := by decide +kernel
theorem dX12_found_15 : decode cX12_found 15 = .ok (.bipush (-3), 2) := by decide +kernel
theorem dX12_found_17 : decode cX12_found 17 = .ok (.ireturn, 1) := by decide +kernel
theorem dX12_count_0 : decode cX12_count 0 = .ok (.aload_n 0, 1) := by decide +kernel
theorem dX12_count_1 : decode cX12_count 1 = .ok (.iconst 0, 1) := by decide +kernel
theorem dX12_count_2 : decode cX12_count 2 = .ok (.putfield 82, 3) := by decide +kernel
theorem dX12_count_5 : decode cX12_count 5 = .ok (.iload_n 1, 1) := by decide +kernel
theorem dX12_count_6 : decode cX12_count 6 = .ok (.tableswitch 122 0 9 #[54, 62, 69, 76, 83, 90, 97, 104, 112, 117], 54) := by decide +kernel
theorem dX12_count_60 : decode cX12_count 60 = .ok (.aload_n 0, 1) := by decide +kernel
theorem dX12_count_61 : decode cX12_count 61 = .ok (.getfield 8, 3) := by decide +kernel
theorem dX12_count_64 : decode cX12_count 64 = .ok (.bipush 8, 2) := by decide +kernel
theorem dX12_count_66 : decode cX12_count 66 = .ok (.iaload, 1) := by decide +kernel
theorem dX12_count_67 : decode cX12_count 67 = .ok (.ireturn, 1) := by decide +kernel
theorem dX12_count_68 : decode cX12_count 68 = .ok (.aload_n 0, 1) := by decide +kernel
theorem dX12_count_69 : decode cX12_count 69 = .ok (.getfield 8, 3) := by decide +kernel
theorem dX12_count_72 : decode cX12_count 72 = .ok (.iconst 0, 1) := by decide +kernel
theorem dX12_count_73 : decode cX12_count 73 = .ok (.iaload, 1) := by decide +kernel
theorem dX12_count_74 : decode cX12_count 74 = .ok (.ireturn, 1) := by decide +kernel
theorem dX12_count_75 : decode cX12_count 75 = .ok (.aload_n 0, 1) := by decide +kernel
theorem dX12_count_76 : decode cX12_count 76 = .ok (.getfield 8, 3) := by decide +kernel
theorem dX12_count_79 : decode cX12_count 79 = .ok (.iconst 1, 1) := by decide +kernel
theorem dX12_count_80 : decode cX12_count 80 = .ok (.iaload, 1) := by decide +kernel
theorem dX12_count_81 : decode cX12_count 81 = .ok (.ireturn, 1) := by decide +kernel
theorem dX12_count_82 : decode cX12_count 82 = .ok (.aload_n 0, 1) := by decide +kernel
theorem dX12_count_83 : decode cX12_count 83 = .ok (.getfield 8, 3) := by decide +kernel
theorem dX12_count_86 : decode cX12_count 86 = .ok (.iconst 2, 1) := by decide +kernel
theorem dX12_count_87 : decode cX12_count 87 = .ok (.iaload, 1) := by decide +kernel
theorem dX12_count_88 : decode cX12_count 88 = .ok (.ireturn, 1) := by decide +kernel
theorem dX12_count_89 : decode cX12_count 89 = .ok (.aload_n 0, 1) := by decide +kernel
theorem dX12_count_90 : decode cX12_count 90 = .ok (.getfield 8, 3) := by decide +kernel
theorem dX12_count_93 : decode cX12_count 93 = .ok (.iconst 3, 1) := by decide +kernel
theorem dX12_count_94 : decode cX12_count 94 = .ok (.iaload, 1) := by decide +kernel
theorem dX12_count_95 : decode cX12_count 95 = .ok (.ireturn, 1) := by decide +kernel
theorem dX12_count_96 : decode cX12_count 96 = .ok (.aload_n 0, 1) := by decide +kernel
theorem dX12_count_97 : decode cX12_count 97 = .ok (.getfield 8, 3) := by decide +kernel
theorem dX12_count_100 : decode cX12_count 100 = .ok (.iconst 4, 1) := by decide +kernel
theorem dX12_count_101 : decode cX12_count 101 = .ok (.iaload, 1) := by decide +kernel
theorem dX12_count_102 : decode cX12_count 102 = .ok (.ireturn, 1) := by decide +kernel
theorem dX12_count_103 : decode cX12_count 103 = .ok (.aload_n 0, 1) := by decide +kernel
theorem dX12_count_104 : decode cX12_count 104 = .ok (.getfield 8, 3) := by decide +kernel
theorem dX12_count_107 : decode cX12_count 107 = .ok (.iconst 5, 1) := by decide +kernel
theorem dX12_count_108 : decode cX12_count 108 = .ok (.iaload, 1) := by decide +kernel
theorem dX12_count_109 : decode cX12_count 109 = .ok (.ireturn, 1) := by decide +kernel
theorem dX12_count_110 : decode cX12_count 110 = .ok (.aload_n 0, 1) := by decide +kernel
theorem dX12_count_111 : decode cX12_count 111 = .ok (.getfield 8, 3) := by decide +kernel
theorem dX12_count_114 : decode cX12_count 114 = .ok (.bipush 6, 2) := by decide +kernel
theorem dX12_count_116 : decode cX12_count 116 = .ok (.iaload, 1) := by decide +kernel
theorem dX12_count_117 : decode cX12_count 117 = .ok (.ireturn, 1) := by decide +kernel
theorem dX12_count_118 : decode cX12_count 118 = .ok (.aload_n 0, 1) := by decide +kernel
theorem dX12_count_119 : decode cX12_count 119 = .ok (.getfield 446, 3) := by decide +kernel
theorem dX12_count_122 : decode cX12_count 122 = .ok (.ireturn, 1) := by decide +kernel
theorem dX12_count_123 : decode cX12_count 123 = .ok (.aload_n 0, 1) := by decide +kernel
theorem dX12_count_124 : decode cX12_count 124 = .ok (.getfield 174, 3) := by decide +kernel
theorem dX12_count_127 : decode cX12_count 127 = .ok (.ireturn, 1) := by decide +kernel
theorem dX12_count_128 : decode cX12_count 128 = .ok (.iconst (-1), 1) := by decide +kernel
theorem dX12_count_129 : decode cX12_count 129 = .ok (.ireturn, 1) := by decide +kernel
theorem dX12_status_0 : decode cX12_status 0 = .ok (.aload_n 0, 1) := by decide +kernel
theorem dX12_status_1 : decode cX12_status 1 = .ok (.iconst 0, 1) := by decide +kernel
theorem dX12_status_2 : decode cX12_status 2 = .ok (.putfield 82, 3) := by decide +kernel
theorem dX12_status_5 : decode cX12_status 5 = .ok (.aload_n 0, 1) := by decide +kernel
theorem dX12_status_6 : decode cX12_status 6 = .ok (.getfield 85, 3) := by decide +kernel
theorem dX12_status_9 : decode cX12_status 9 = .ok (.ireturn, 1) := by decide +kernel
theorem dX12_reckon_0 : decode cX12_reckon 0 = .ok (.iload_n 1, 1) := by decide +kernel
theorem dX12_reckon_1 : decode cX12_reckon 1 = .ok (.tableswitch 112 20 25 #[39, 44, 49, 54, 86, 99], 39) := by decide +kernel
theorem dX12_reckon_40 : decode cX12_reckon 40 = .ok (.lload_n 2, 1) := by decide +kernel
theorem dX12_reckon_41 : decode cX12_reckon 41 = .ok (.lload 4, 2) := by decide +kernel
theorem dX12_reckon_43 : decode cX12_reckon 43 = .ok (.ladd, 1) := by decide +kernel
theorem dX12_reckon_44 : decode cX12_reckon 44 = .ok (.lreturn, 1) := by decide +kernel
theorem dX12_reckon_45 : decode cX12_reckon 45 = .ok (.lload_n 2, 1) := by decide +kernel
theorem dX12_reckon_46 : decode cX12_reckon 46 = .ok (.lload 4, 2) := by decide +kernel
theorem dX12_reckon_48 : decode cX12_reckon 48 = .ok (.lsub, 1) := by decide +kernel
theorem dX12_reckon_49 : decode cX12_reckon 49 = .ok (.lreturn, 1) := by decide +kernel
theorem dX12_reckon_50 : decode cX12_reckon 50 = .ok (.lload_n 2, 1) := by decide +kernel
theorem dX12_reckon_51 : decode cX12_reckon 51 = .ok (.lload 4, 2) := by decide +kernel
theorem dX12_reckon_53 : decode cX12_reckon 53 = .ok (.lmul, 1) := by decide +kernel
theorem dX12_reckon_54 : decode cX12_reckon 54 = .ok (.lreturn, 1) := by decide +kernel
theorem dX12_reckon_55 : decode cX12_reckon 55 = .ok (.aload_n 0, 1) := by decide +kernel
theorem dX12_reckon_56 : decode cX12_reckon 56 = .ok (.lload 4, 2) := by decide +kernel
theorem dX12_reckon_58 : decode cX12_reckon 58 = .ok (.lconst 0, 1) := by decide +kernel
theorem dX12_reckon_59 : decode cX12_reckon 59 = .ok (.lcmp, 1) := by decide +kernel
theorem dX12_reckon_60 : decode cX12_reckon 60 = .ok (.ifCond .ne 7, 3) := by decide +kernel
theorem dX12_reckon_67 : decode cX12_reckon 67 = .ok (.iconst 0, 1) := by decide +kernel
theorem dX12_reckon_68 : decode cX12_reckon 68 = .ok (.putfield 406, 3) := by decide +kernel
theorem dX12_reckon_71 : decode cX12_reckon 71 = .ok (.aload_n 0, 1) := by decide +kernel
theorem dX12_reckon_72 : decode cX12_reckon 72 = .ok (.getfield 406, 3) := by decide +kernel
theorem dX12_reckon_75 : decode cX12_reckon 75 = .ok (.ifCond .eq 7, 3) := by decide +kernel
theorem dX12_reckon_82 : decode cX12_reckon 82 = .ok (.lload_n 2, 1) := by decide +kernel
theorem dX12_reckon_83 : decode cX12_reckon 83 = .ok (.lload 4, 2) := by decide +kernel
theorem dX12_reckon_85 : decode cX12_reckon 85 = .ok (.ldiv, 1) := by decide +kernel
theorem dX12_reckon_86 : decode cX12_reckon 86 = .ok (.lreturn, 1) := by decide +kernel
theorem dX12_reckon_63 : decode cX12_reckon 63 = .ok (.iconst 1, 1) := by decide +kernel
theorem dX12_reckon_64 : decode cX12_reckon 64 = .ok (.goto 4, 3) := by decide +kernel
theorem dX12_reckon_78 : decode cX12_reckon 78 = .ok (.lconst 0, 1) := by decide +kernel
theorem dX12_reckon_79 : decode cX12_reckon 79 = .ok (.goto 7, 3) := by decide +kernel
theorem dX12_reckon_87 : decode cX12_reckon 87 = .ok (.lload_n 2, 1) := by decide +kernel
theorem dX12_reckon_88 : decode cX12_reckon 88 = .ok (.lload 4, 2) := by decide +kernel
theorem dX12_reckon_90 : decode cX12_reckon 90 = .ok (.lcmp, 1) := by decide +kernel
theorem dX12_reckon_91 : decode cX12_reckon 91 = .ok (.ifCond .ge 7, 3) := by decide +kernel
theorem dX12_reckon_98 : decode cX12_reckon 98 = .ok (.lconst 0, 1) := by decide +kernel
theorem dX12_reckon_99 : decode cX12_reckon 99 = .ok (.lreturn, 1) := by decide +kernel
theorem dX12_reckon_94 : decode cX12_reckon 94 = .ok (.lconst 1, 1) := by decide +kernel
theorem dX12_reckon_95 : decode cX12_reckon 95 = .ok (.goto 4, 3) := by decide +kernel
theorem dX12_reckon_100 : decode cX12_reckon 100 = .ok (.lload_n 2, 1) := by decide +kernel
theorem dX12_reckon_101 : decode cX12_reckon 101 = .ok (.lload 4, 2) := by decide +kernel
theorem dX12_reckon_103 : decode cX12_reckon 103 = .ok (.lcmp, 1) := by decide +kernel
theorem dX12_reckon_104 : decode cX12_reckon 104 = .ok (.ifCond .le 7, 3) := by decide +kernel
theorem dX12_reckon_111 : decode cX12_reckon 111 = .ok (.lconst 0, 1) := by decide +kernel
theorem dX12_reckon_112 : decode cX12_reckon 112 = .ok (.lreturn, 1) := by decide +kernel
theorem dX12_reckon_107 : decode cX12_reckon 107 = .ok (.lconst 1, 1) := by decide +kernel
theorem dX12_reckon_108 : decode cX12_reckon 108 = .ok (.goto 4, 3) := by decide +kernel
theorem dX12_reckon_113 : decode cX12_reckon 113 = .ok (.lload_n 2, 1) := by decide +kernel
theorem dX12_reckon_114 : decode cX12_reckon 114 = .ok (.lload 4, 2) := by decide +kernel
theorem dX12_reckon_116 : decode cX12_reckon 116 = .ok (.lcmp, 1) := by decide +kernel
theorem dX12_reckon_117 : decode cX12_reckon 117 = .ok (.ifCond .ne 7, 3) := by decide +kernel
theorem dX12_reckon_124 : decode cX12_reckon 124 = .ok (.lconst 0, 1) := by decide +kernel
theorem dX12_reckon_125 : decode cX12_reckon 125 = .ok (.lreturn, 1) := by decide +kernel
theorem dX12_reckon_120 : decode cX12_reckon 120 = .ok (.lconst 1, 1) := by decide +kernel
theorem dX12_reckon_121 : decode cX12_reckon 121 = .ok (.goto 4, 3) := by decide +kernel
theorem dX12_four_0 : decode cX12_four 0 = .ok (.bipush 24, 2) := by decide +kernel
theorem dX12_four_2 : decode cX12_four 2 = .ok (.istore_n 2, 1) := by decide +kernel
theorem dX12_four_3 : decode cX12_four 3 = .ok (.iload_n 2, 1) := by decide +kernel
theorem dX12_four_4 : decode cX12_four 4 = .ok (.ifCond .lt 35, 3) := by decide +kernel
theorem dX12_four_39 : decode cX12_four 39 = .ok (.return_, 1) := by decide +kernel
theorem dX12_four_7 : decode cX12_four 7 = .ok (.aload_n 0, 1) := by decide +kernel
theorem dX12_four_8 : decode cX12_four 8 = .ok (.getfield 32, 3) := by decide +kernel
theorem dX12_four_11 : decode cX12_four 11 = .ok (.aload_n 0, 1) := by decide +kernel
theorem dX12_four_12 : decode cX12_four 12 = .ok (.getfield 174, 3) := by decide +kernel
theorem dX12_four_15 : decode cX12_four 15 = .ok (.iload_n 1, 1) := by decide +kernel
theorem dX12_four_16 : decode cX12_four 16 = .ok (.iload_n 2, 1) := by decide +kernel
theorem dX12_four_17 : decode cX12_four 17 = .ok (.ishr, 1) := by decide +kernel
theorem dX12_four_18 : decode cX12_four 18 = .ok (.sipush 255, 3) := by decide +kernel
theorem dX12_four_21 : decode cX12_four 21 = .ok (.iand, 1) := by decide +kernel
theorem dX12_four_22 : decode cX12_four 22 = .ok (.iastore, 1) := by decide +kernel
theorem dX12_four_23 : decode cX12_four 23 = .ok (.aload_n 0, 1) := by decide +kernel
theorem dX12_four_24 : decode cX12_four 24 = .ok (.dup, 1) := by decide +kernel
theorem dX12_four_25 : decode cX12_four 25 = .ok (.getfield 174, 3) := by decide +kernel
theorem dX12_four_28 : decode cX12_four 28 = .ok (.iconst 1, 1) := by decide +kernel
theorem dX12_four_29 : decode cX12_four 29 = .ok (.iadd, 1) := by decide +kernel
theorem dX12_four_30 : decode cX12_four 30 = .ok (.putfield 174, 3) := by decide +kernel
theorem dX12_four_33 : decode cX12_four 33 = .ok (.iinc 2 (-8), 3) := by decide +kernel
theorem dX12_four_36 : decode cX12_four 36 = .ok (.goto (-33), 3) := by decide +kernel
theorem dX12_feed_0 : decode cX12_feed 0 = .ok (.aload_n 0, 1) := by decide +kernel
theorem dX12_feed_1 : decode cX12_feed 1 = .ok (.iconst 0, 1) := by decide +kernel
theorem dX12_feed_2 : decode cX12_feed 2 = .ok (.putfield 82, 3) := by decide +kernel
theorem dX12_feed_5 : decode cX12_feed 5 = .ok (.aload_n 0, 1) := by decide +kernel
theorem dX12_feed_6 : decode cX12_feed 6 = .ok (.getfield 174, 3) := by decide +kernel
theorem dX12_feed_9 : decode cX12_feed 9 = .ok (.bipush 20, 2) := by decide +kernel
theorem dX12_feed_11 : decode cX12_feed 11 = .ok (.iadd, 1) := by decide +kernel
theorem dX12_feed_12 : decode cX12_feed 12 = .ok (.sipush 400, 3) := by decide +kernel
theorem dX12_feed_15 : decode cX12_feed 15 = .ok (.if_icmp .le 5, 3) := by decide +kernel
theorem dX12_feed_20 : decode cX12_feed 20 = .ok (.aload_n 0, 1) := by decide +kernel
theorem dX12_feed_21 : decode cX12_feed 21 = .ok (.iload_n 1, 1) := by decide +kernel
theorem dX12_feed_22 : decode cX12_feed 22 = .ok (.invokevirtual 186, 3) := by decide +kernel
theorem dX12_feed_25 : decode cX12_feed 25 = .ok (.aload_n 0, 1) := by decide +kernel
theorem dX12_feed_26 : decode cX12_feed 26 = .ok (.iload_n 2, 1) := by decide +kernel
theorem dX12_feed_27 : decode cX12_feed 27 = .ok (.invokevirtual 186, 3) := by decide +kernel
theorem dX12_feed_30 : decode cX12_feed 30 = .ok (.aload_n 0, 1) := by decide +kernel
theorem dX12_feed_31 : decode cX12_feed 31 = .ok (.iload_n 3, 1) := by decide +kernel
theorem dX12_feed_32 : decode cX12_feed 32 = .ok (.invokevirtual 186, 3) := by decide +kernel
theorem dX12_feed_35 : decode cX12_feed 35 = .ok (.aload_n 0, 1) := by decide +kernel
theorem dX12_feed_36 : decode cX12_feed 36 = .ok (.iload 4, 2) := by decide +kernel
theorem dX12_feed_38 : decode cX12_feed 38 = .ok (.invokevirtual 186, 3) := by decide +kernel
theorem dX12_feed_41 : decode cX12_feed 41 = .ok (.aload_n 0, 1) := by decide +kernel
theorem dX12_feed_42 : decode cX12_feed 42 = .ok (.iload 5, 2) := by decide +kernel
theorem dX12_feed_44 : decode cX12_feed 44 = .ok (.invokevirtual 186, 3) := by decide +kernel
theorem dX12_feed_47 : decode cX12_feed 47 = .ok (.aload_n 0, 1) := by decide +kernel
theorem dX12_feed_48 : decode cX12_feed 48 = .ok (.getfield 174, 3) := by decide +kernel
theorem dX12_feed_51 : decode cX12_feed 51 = .ok (.ireturn, 1) := by decide +kernel
theorem dX12_feed_18 : decode cX12_feed 18 = .ok (.iconst (-1), 1) := by decide +kernel
theorem dX12_feed_19 : decode cX12_feed 19 = .ok (.ireturn, 1) := by decide +kernel
def ms_X12_in : List (Nat × Nat) := []
def po_X12_in (kp : Nat → Nat) (L : List Nat) (f0 : Nat → va_E) (u1 : Int64) (u2 : Int64) (u3 : Int64) : Option Value → (Nat → va_E) → Prop := fun v f => (∃ r : Int32, v = some (.int r) ∧ ((r.toInt = 1 ∧ u2.toInt ≤ u1.toInt ∧ u1.toInt ≤ u3.toInt) ∨ (r.toInt = 0 ∧ (u1.toInt < u2.toInt ∨ u3.toInt < u1.toInt)))) ∧ FM kp L ms_X12_in f0 f
set_option maxHeartbeats 4000000 in
set_option maxRecDepth 100000 in
theorem c_X12_in (l : Launch) (G : va_G) (cI cJ cZ cD cR cT : ClassId) (kp : Nat → Nat) (L : List Nat) (f0 : Nat → va_E) (hTH : TH cI cJ cZ cD cR cT kp L f0) (sz : Nat) (u1 : Int64) (u2 : Int64) (u3 : Int64) : Met l yX12_in (Cond.code yX12_in cX12_in 6 (some .boolean) :: wTab) ({ frames := 1, cells := 0, slots := 0, locals := 40 }) (va_Pc [.long u1, .long u2, .long u3] (PreW G (tys6 cI cJ cZ cD cR cT) (va_pl L f0) sz)) (QT (po_X12_in kp L f0 u1 u2 u3) G cI cJ cZ cD cR cT (va_A (va_pl L f0) sz) kp L) 0 0 (va_A (va_pl L f0) sz) := by
  refine metT (by decide) (Nat.le_of_ble_eq_true rfl) hTH ?_
  intro p e s m below meth c A ls E hW hl
  obtain ⟨hx, hb, -, hml, hown, hts, -, -, -⟩ := id E
  have hF : FM kp L ms_X12_in f0 f0 := FM.rf
  have hl : lv_has ls 6 [(0, .long u1), (2, .long u2), (4, .long u3)] := hl
  refine lv_lload_n hx hb dX12_in_0 rfl (lv_at hl 0 rfl) ?_
  refine lv_lload_n hx hb dX12_in_1 rfl (lv_at hl 1 rfl) ?_
  refine q_lcmp_lt (tgt := 17) hx hb dX12_in_2 dX12_in_3 (by decide) rfl rfl (fun c1 => ?_) (fun c1 => ?_)
  · refine lv_iconst (v := 0) hx hb dX12_in_17 (by decide) ?_
    exact e_Z E hW rfl (by decide) ⟨⟨_, rfl, (by have hk : (0 : Int32).toInt = 0 := rfl; first | decide | omega)⟩, hF⟩ dX12_in_18
  · refine lv_lload_n hx hb dX12_in_6 rfl (lv_at hl 0 rfl) ?_
    refine lv_lload hx hb dX12_in_7 (lv_at hl 2 rfl) ?_
    refine q_lcmp_gt (tgt := 17) hx hb dX12_in_9 dX12_in_10 (by decide) rfl rfl (fun c2 => ?_) (fun c2 => ?_)
    · refine lv_iconst (v := 0) hx hb dX12_in_17 (by decide) ?_
      exact e_Z E hW rfl (by decide) ⟨⟨_, rfl, (by have hk : (0 : Int32).toInt = 0 := rfl; first | decide | omega)⟩, hF⟩ dX12_in_18
    · refine lv_iconst (v := 1) hx hb dX12_in_13 (by decide) ?_
      refine lv_goto (tgt := 18) hx hb dX12_in_14 (by decide) ?_
      exact e_Z E hW rfl (by decide) ⟨⟨_, rfl, (by have hk : (1 : Int32).toInt = 1 := rfl; first | decide | omega)⟩, hF⟩ dX12_in_18
def ms_X12_told : List (Nat × Nat) := [(12, 1)]
def po_X12_told (kp : Nat → Nat) (L : List Nat) (f0 : Nat → va_E) (h0 : Nat) (u1 : Int32) : Option Value → (Nat → va_E) → Prop := fun v f => (∃ r : Int32, v = some (.int r) ∧ (True)) ∧ FM kp L ms_X12_told f0 f
set_option maxHeartbeats 4000000 in
set_option maxRecDepth 100000 in
theorem c_X12_told (l : Launch) (G : va_G) (cI cJ cZ cD cR cT : ClassId) (kp : Nat → Nat) (L : List Nat) (f0 : Nat → va_E) (hTH : TH cI cJ cZ cD cR cT kp L f0) (sz : Nat) (h0 : Nat) (u1 : Int32) (rh0 : RK kp L h0 12) : Met l yX12_told (Cond.code yX12_told cX12_told 2 (some .int) :: wTab) ({ frames := 1, cells := 0, slots := 0, locals := 40 }) (va_Pc [.ref h0, .int u1] (PreW G (tys6 cI cJ cZ cD cR cT) (va_pl L f0) sz)) (QT (po_X12_told kp L f0 h0 u1) G cI cJ cZ cD cR cT (va_A (va_pl L f0) sz) kp L) 0 0 (va_A (va_pl L f0) sz) := by
  refine metT (by decide) (Nat.le_of_ble_eq_true rfl) hTH ?_
  intro p e s m below meth c A ls E hW hl
  obtain ⟨hx, hb, -, hml, hown, hts, -, -, -⟩ := id E
  have hF : FM kp L ms_X12_told f0 f0 := FM.rf
  have hl : lv_has ls 2 [(0, .ref h0), (1, .int u1)] := hl
  obtain ⟨pR, mR⟩ : ∃ x : Nat, oR (f0 h0) 2 = x := ⟨_, rfl⟩
  have rR : RK kp L pR 822 := by rw [← mR]; exact th_ref hTH rh0 (by decide) (by decide) rfl
  refine lv_aload_n hx hb dX12_told_0 rfl (lv_at hl 0 rfl) ?_
  refine lv_iload_n hx hb dX12_told_1 rfl (lv_at hl 1 rfl) ?_
  have J3 : ∀ (y1 : Int32) (b2 : y1.toInt ≤ 0) (H : Heap) (locs : List Loc) (ls : Array Slot), WS G cI cJ cZ cD cR cT A kp L f0 s H locs → FM kp L ms_X12_told f0 f0 → lv_has ls 2 [(0, .ref h0), (1, .int u1)] → W p l e ({ frames := 1, cells := 0, slots := 0, locals := 40 }) s m ([.ref h0, .int u1] : List Value).toArray below meth c H locs 0 0 (MQ below (QT (po_X12_told kp L f0 h0 u1) G cI cJ cZ cD cR cT A kp L) ([.ref h0, .int u1] : List Value).toArray s 0 0 A) (F0 m 10 ls [.int y1, .ref h0]) := by
    intro y1 b2 H locs ls hW hF hl
    refine fp_RX12_85 E hW rh0 dX12_told_10 (fun f4 H locs e5 n6 g7 hW => ?_)
    have hF := FM.tr hF g7 rfl
    refine lv_iload_n hx hb dX12_told_13 rfl (lv_at hl 1 rfl) ?_
    exact e_I E hW rfl ⟨⟨_, rfl, trivial⟩, hF⟩ dX12_told_14
  refine q_if_ge (tgt := 9) hx hb dX12_told_2 (by decide) rfl (fun c8 => ?_) (fun c8 => ?_)
  · refine lv_iconst (v := 0) hx hb dX12_told_9 (by decide) ?_
    exact J3 0 (by decide) _ _ _ hW hF (lv_sub hl [0, 1] rfl)
  · refine lv_iload_n hx hb dX12_told_5 rfl (lv_at hl 1 rfl) ?_
    refine lv_goto (tgt := 10) hx hb dX12_told_6 (by decide) ?_
    exact J3 u1 (by omega) _ _ _ hW hF (lv_sub hl [0, 1] rfl)
def ms_X12_isWeek : List (Nat × Nat) := []
def po_X12_isWeek (kp : Nat → Nat) (L : List Nat) (f0 : Nat → va_E) (u1 : Int32) : Option Value → (Nat → va_E) → Prop := fun v f => (∃ r : Int32, v = some (.int r) ∧ ((r.toInt = 1 ∧ 0 ≤ u1.toInt ∧ u1.toInt ≤ 399) ∨ (r.toInt = 0 ∧ (u1.toInt < 0 ∨ 399 < u1.toInt)))) ∧ FM kp L ms_X12_isWeek f0 f
set_option maxHeartbeats 4000000 in
set_option maxRecDepth 100000 in
theorem c_X12_isWeek (l : Launch) (G : va_G) (cI cJ cZ cD cR cT : ClassId) (kp : Nat → Nat) (L : List Nat) (f0 : Nat → va_E) (hTH : TH cI cJ cZ cD cR cT kp L f0) (sz : Nat) (u1 : Int32) : Met l yX12_isWeek (Cond.code yX12_isWeek cX12_isWeek 1 (some .boolean) :: wTab) ({ frames := 2, cells := 0, slots := 0, locals := 65 }) (va_Pc [.int u1] (PreW G (tys6 cI cJ cZ cD cR cT) (va_pl L f0) sz)) (QT (po_X12_isWeek kp L f0 u1) G cI cJ cZ cD cR cT (va_A (va_pl L f0) sz) kp L) 0 0 (va_A (va_pl L f0) sz) := by
  refine metT (by decide) (Nat.le_of_ble_eq_true rfl) hTH ?_
  intro p e s m below meth c A ls E hW hl
  obtain ⟨hx, hb, -, hml, hown, hts, -, -, -⟩ := id E
  have hF : FM kp L ms_X12_isWeek f0 f0 := FM.rf
  have hl : lv_has ls 1 [(0, .int u1)] := hl
  refine lv_iload_n hx hb dX12_isWeek_0 rfl (lv_at hl 0 rfl) ?_
  refine q_i2l hx hb dX12_isWeek_1 rfl (fun x1 h2 => ?_)
  have hb3 : -2147483648 ≤ x1.toInt ∧ x1.toInt ≤ 2147483647 := by have := i32_b u1; omega
  refine lv_lconst (v := 0) hx hb dX12_isWeek_2 (by decide) ?_
  refine lv_ldc2 (v := 399) hx hb hown (hts _ tw_1722) dX12_isWeek_3 ?_
  refine t_callS (As := [.long x1, .long 0, .long 399]) (rest := []) E hW (c_X12_in l G cI cJ cZ cD cR cT kp L f0 hW.2.2.2 _ x1 0 399) wk_X12_in tw_1554 rfl ⟨Nat.le_of_ble_eq_true rfl, Nat.le_of_ble_eq_true rfl⟩ ⟨rfl, rfl⟩ hl.1 rfl (Nat.le_of_ble_eq_true rfl) dX12_isWeek_6 ⟨Nat.le_of_ble_eq_true rfl, Nat.le_of_ble_eq_true rfl⟩ (fun v4 f5 H locs q6 hW => ?_)
  obtain ⟨⟨x8, rfl, p9⟩, g7⟩ := q6
  have p9 : (x8.toInt = 1 ∧ 0 ≤ x1.toInt ∧ x1.toInt ≤ 399) ∨ (x8.toInt = 0 ∧ (x1.toInt < 0 ∨ 399 < x1.toInt)) := p9
  have hF := FM.tr hF g7 rfl
  exact e_Z E hW rfl (by omega) ⟨⟨_, rfl, (by first | omega | trivial)⟩, hF⟩ dX12_isWeek_9
def ms_X12_isPerson : List (Nat × Nat) := []
def po_X12_isPerson (kp : Nat → Nat) (L : List Nat) (f0 : Nat → va_E) (h0 : Nat) (u1 : Int32) : Option Value → (Nat → va_E) → Prop := fun v f => (∃ r : Int32, v = some (.int r) ∧ ((r.toInt = 1 ∧ 0 ≤ u1.toInt ∧ u1.toInt ≤ 39) ∨ r.toInt = 0)) ∧ FM kp L ms_X12_isPerson f0 f
set_option maxHeartbeats 4000000 in
set_option maxRecDepth 100000 in
theorem c_X12_isPerson (l : Launch) (G : va_G) (cI cJ cZ cD cR cT : ClassId) (kp : Nat → Nat) (L : List Nat) (f0 : Nat → va_E) (hTH : TH cI cJ cZ cD cR cT kp L f0) (sz : Nat) (h0 : Nat) (u1 : Int32) (rh0 : RK kp L h0 12) : Met l yX12_isPerson (Cond.code yX12_isPerson cX12_isPerson 2 (some .boolean) :: wTab) ({ frames := 2, cells := 0, slots := 0, locals := 65 }) (va_Pc [.ref h0, .int u1] (PreW G (tys6 cI cJ cZ cD cR cT) (va_pl L f0) sz)) (QT (po_X12_isPerson kp L f0 h0 u1) G cI cJ cZ cD cR cT (va_A (va_pl L f0) sz) kp L) 0 0 (va_A (va_pl L f0) sz) := by
  refine metT (by decide) (Nat.le_of_ble_eq_true rfl) hTH ?_
  intro p e s m below meth c A ls E hW hl
  obtain ⟨hx, hb, -, hml, hown, hts, -, -, -⟩ := id E
  have hF : FM kp L ms_X12_isPerson f0 f0 := FM.rf
  have hl : lv_has ls 2 [(0, .ref h0), (1, .int u1)] := hl
  obtain ⟨pR, mR⟩ : ∃ x : Nat, oR (f0 h0) 2 = x := ⟨_, rfl⟩
  have rR : RK kp L pR 822 := by rw [← mR]; exact th_ref hTH rh0 (by decide) (by decide) rfl
  refine lv_iload_n hx hb dX12_isPerson_0 rfl (lv_at hl 1 rfl) ?_
  refine q_i2l hx hb dX12_isPerson_1 rfl (fun x1 h2 => ?_)
  have hb3 : -2147483648 ≤ x1.toInt ∧ x1.toInt ≤ 2147483647 := by have := i32_b u1; omega
  refine lv_lconst (v := 0) hx hb dX12_isPerson_2 (by decide) ?_
  refine lv_aload_n hx hb dX12_isPerson_3 rfl (lv_at hl 0 rfl) ?_
  refine fg_RX12_8 E hW rh0 dX12_isPerson_4 (fun a4 m5 r6 => ?_)
  obtain rfl : pR = a4 := (mR).symm.trans m5
  refine lv_iconst (v := 0) hx hb dX12_isPerson_7 (by decide) ?_
  refine gl_822 E hW rR (by decide) dX12_isPerson_8 (fun y7 m8 b9 => ?_)
  have b10 := rr_0 (show RowInv _ from b9) m8 (by decide)
  refine q_i2l hx hb dX12_isPerson_9 rfl (fun x11 h12 => ?_)
  refine lv_lconst (v := 1) hx hb dX12_isPerson_10 (by decide) ?_
  refine q_lsub (Y := 1) hx hb dX12_isPerson_11 rfl rfl (by omega) (fun x13 h14 => ?_)
  refine t_callS (As := [.long x1, .long 0, .long x13]) (rest := []) E hW (c_X12_in l G cI cJ cZ cD cR cT kp L f0 hW.2.2.2 _ x1 0 x13) wk_X12_in tw_1554 rfl ⟨Nat.le_of_ble_eq_true rfl, Nat.le_of_ble_eq_true rfl⟩ ⟨rfl, rfl⟩ hl.1 rfl (Nat.le_of_ble_eq_true rfl) dX12_isPerson_12 ⟨Nat.le_of_ble_eq_true rfl, Nat.le_of_ble_eq_true rfl⟩ (fun v15 f16 H locs q17 hW => ?_)
  obtain ⟨⟨x19, rfl, p20⟩, g18⟩ := q17
  have p20 : (x19.toInt = 1 ∧ 0 ≤ x1.toInt ∧ x1.toInt ≤ x13.toInt) ∨ (x19.toInt = 0 ∧ (x1.toInt < 0 ∨ x13.toInt < x1.toInt)) := p20
  have hF := FM.tr hF g18 rfl
  exact e_Z E hW rfl (by omega) ⟨⟨_, rfl, (by first | omega | trivial)⟩, hF⟩ dX12_isPerson_15
def ms_X12_isField : List (Nat × Nat) := []
def po_X12_isField (kp : Nat → Nat) (L : List Nat) (f0 : Nat → va_E) (h0 : Nat) (u1 : Int32) : Option Value → (Nat → va_E) → Prop := fun v f => (∃ r : Int32, v = some (.int r) ∧ ((r.toInt = 1 ∧ 0 ≤ u1.toInt ∧ u1.toInt ≤ 39) ∨ r.toInt = 0)) ∧ FM kp L ms_X12_isField f0 f
set_option maxHeartbeats 4000000 in
set_option maxRecDepth 100000 in
theorem c_X12_isField (l : Launch) (G : va_G) (cI cJ cZ cD cR cT : ClassId) (kp : Nat → Nat) (L : List Nat) (f0 : Nat → va_E) (hTH : TH cI cJ cZ cD cR cT kp L f0) (sz : Nat) (h0 : Nat) (u1 : Int32) (rh0 : RK kp L h0 12) : Met l yX12_isField (Cond.code yX12_isField cX12_isField 2 (some .boolean) :: wTab) ({ frames := 2, cells := 0, slots := 0, locals := 65 }) (va_Pc [.ref h0, .int u1] (PreW G (tys6 cI cJ cZ cD cR cT) (va_pl L f0) sz)) (QT (po_X12_isField kp L f0 h0 u1) G cI cJ cZ cD cR cT (va_A (va_pl L f0) sz) kp L) 0 0 (va_A (va_pl L f0) sz) := by
  refine metT (by decide) (Nat.le_of_ble_eq_true rfl) hTH ?_
  intro p e s m below meth c A ls E hW hl
  obtain ⟨hx, hb, -, hml, hown, hts, -, -, -⟩ := id E
  have hF : FM kp L ms_X12_isField f0 f0 := FM.rf
  have hl : lv_has ls 2 [(0, .ref h0), (1, .int u1)] := hl
  obtain ⟨pR, mR⟩ : ∃ x : Nat, oR (f0 h0) 2 = x := ⟨_, rfl⟩
  have rR : RK kp L pR 822 := by rw [← mR]; exact th_ref hTH rh0 (by decide) (by decide) rfl
  refine lv_iload_n hx hb dX12_isField_0 rfl (lv_at hl 1 rfl) ?_
  refine q_i2l hx hb dX12_isField_1 rfl (fun x1 h2 => ?_)
  have hb3 : -2147483648 ≤ x1.toInt ∧ x1.toInt ≤ 2147483647 := by have := i32_b u1; omega
  refine lv_lconst (v := 0) hx hb dX12_isField_2 (by decide) ?_
  refine lv_aload_n hx hb dX12_isField_3 rfl (lv_at hl 0 rfl) ?_
  refine fg_RX12_8 E hW rh0 dX12_isField_4 (fun a4 m5 r6 => ?_)
  obtain rfl : pR = a4 := (mR).symm.trans m5
  refine lv_iconst (v := 2) hx hb dX12_isField_7 (by decide) ?_
  refine gl_822 E hW rR (by decide) dX12_isField_8 (fun y7 m8 b9 => ?_)
  have b10 := rr_2 (show RowInv _ from b9) m8 (by decide)
  refine q_i2l hx hb dX12_isField_9 rfl (fun x11 h12 => ?_)
  refine lv_lconst (v := 1) hx hb dX12_isField_10 (by decide) ?_
  refine q_lsub (Y := 1) hx hb dX12_isField_11 rfl rfl (by omega) (fun x13 h14 => ?_)
  refine t_callS (As := [.long x1, .long 0, .long x13]) (rest := []) E hW (c_X12_in l G cI cJ cZ cD cR cT kp L f0 hW.2.2.2 _ x1 0 x13) wk_X12_in tw_1554 rfl ⟨Nat.le_of_ble_eq_true rfl, Nat.le_of_ble_eq_true rfl⟩ ⟨rfl, rfl⟩ hl.1 rfl (Nat.le_of_ble_eq_true rfl) dX12_isField_12 ⟨Nat.le_of_ble_eq_true rfl, Nat.le_of_ble_eq_true rfl⟩ (fun v15 f16 H locs q17 hW => ?_)
  obtain ⟨⟨x19, rfl, p20⟩, g18⟩ := q17
  have p20 : (x19.toInt = 1 ∧ 0 ≤ x1.toInt ∧ x1.toInt ≤ x13.toInt) ∨ (x19.toInt = 0 ∧ (x1.toInt < 0 ∨ x13.toInt < x1.toInt)) := p20
  have hF := FM.tr hF g18 rfl
  exact e_Z E hW rfl (by omega) ⟨⟨_, rfl, (by first | omega | trivial)⟩, hF⟩ dX12_isField_15
def ms_X12_isEstate : List (Nat × Nat) := []
def po_X12_isEstate (kp : Nat → Nat) (L : List Nat) (f0 : Nat → va_E) (h0 : Nat) (u1 : Int32) : Option Value → (Nat → va_E) → Prop := fun v f => (∃ r : Int32, v = some (.int r) ∧ ((r.toInt = 1 ∧ 0 ≤ u1.toInt ∧ u1.toInt ≤ 7) ∨ r.toInt = 0)) ∧ FM kp L ms_X12_isEstate f0 f
set_option maxHeartbeats 4000000 in
set_option maxRecDepth 100000 in
theorem c_X12_isEstate (l : Launch) (G : va_G) (cI cJ cZ cD cR cT : ClassId) (kp : Nat → Nat) (L : List Nat) (f0 : Nat → va_E) (hTH : TH cI cJ cZ cD cR cT kp L f0) (sz : Nat) (h0 : Nat) (u1 : Int32) (rh0 : RK kp L h0 12) : Met l yX12_isEstate (Cond.code yX12_isEstate cX12_isEstate 2 (some .boolean) :: wTab) ({ frames := 2, cells := 0, slots := 0, locals := 65 }) (va_Pc [.ref h0, .int u1] (PreW G (tys6 cI cJ cZ cD cR cT) (va_pl L f0) sz)) (QT (po_X12_isEstate kp L f0 h0 u1) G cI cJ cZ cD cR cT (va_A (va_pl L f0) sz) kp L) 0 0 (va_A (va_pl L f0) sz) := by
  refine metT (by decide) (Nat.le_of_ble_eq_true rfl) hTH ?_
  intro p e s m below meth c A ls E hW hl
  obtain ⟨hx, hb, -, hml, hown, hts, -, -, -⟩ := id E
  have hF : FM kp L ms_X12_isEstate f0 f0 := FM.rf
  have hl : lv_has ls 2 [(0, .ref h0), (1, .int u1)] := hl
  obtain ⟨pR, mR⟩ : ∃ x : Nat, oR (f0 h0) 2 = x := ⟨_, rfl⟩
  have rR : RK kp L pR 822 := by rw [← mR]; exact th_ref hTH rh0 (by decide) (by decide) rfl
  refine lv_iload_n hx hb dX12_isEstate_0 rfl (lv_at hl 1 rfl) ?_
  refine q_i2l hx hb dX12_isEstate_1 rfl (fun x1 h2 => ?_)
  have hb3 : -2147483648 ≤ x1.toInt ∧ x1.toInt ≤ 2147483647 := by have := i32_b u1; omega
  refine lv_lconst (v := 0) hx hb dX12_isEstate_2 (by decide) ?_
  refine lv_aload_n hx hb dX12_isEstate_3 rfl (lv_at hl 0 rfl) ?_
  refine fg_RX12_8 E hW rh0 dX12_isEstate_4 (fun a4 m5 r6 => ?_)
  obtain rfl : pR = a4 := (mR).symm.trans m5
  refine lv_iconst (v := 1) hx hb dX12_isEstate_7 (by decide) ?_
  refine gl_822 E hW rR (by decide) dX12_isEstate_8 (fun y7 m8 b9 => ?_)
  have b10 := rr_1 (show RowInv _ from b9) m8 (by decide)
  refine q_i2l hx hb dX12_isEstate_9 rfl (fun x11 h12 => ?_)
  refine lv_lconst (v := 1) hx hb dX12_isEstate_10 (by decide) ?_
  refine q_lsub (Y := 1) hx hb dX12_isEstate_11 rfl rfl (by omega) (fun x13 h14 => ?_)
  refine t_callS (As := [.long x1, .long 0, .long x13]) (rest := []) E hW (c_X12_in l G cI cJ cZ cD cR cT kp L f0 hW.2.2.2 _ x1 0 x13) wk_X12_in tw_1554 rfl ⟨Nat.le_of_ble_eq_true rfl, Nat.le_of_ble_eq_true rfl⟩ ⟨rfl, rfl⟩ hl.1 rfl (Nat.le_of_ble_eq_true rfl) dX12_isEstate_12 ⟨Nat.le_of_ble_eq_true rfl, Nat.le_of_ble_eq_true rfl⟩ (fun v15 f16 H locs q17 hW => ?_)
  obtain ⟨⟨x19, rfl, p20⟩, g18⟩ := q17
  have p20 : (x19.toInt = 1 ∧ 0 ≤ x1.toInt ∧ x1.toInt ≤ x13.toInt) ∨ (x19.toInt = 0 ∧ (x1.toInt < 0 ∨ x13.toInt < x1.toInt)) := p20
  have hF := FM.tr hF g18 rfl
  exact e_Z E hW rfl (by omega) ⟨⟨_, rfl, (by first | omega | trivial)⟩, hF⟩ dX12_isEstate_15
def ms_X12_personAt : List (Nat × Nat) := []
def po_X12_personAt (kp : Nat → Nat) (L : List Nat) (f0 : Nat → va_E) (u1 : Int32) : Option Value → (Nat → va_E) → Prop := fun v f => (∃ r : Int32, v = some (.int r) ∧ (r.toInt = 20 + 8 * u1.toInt)) ∧ FM kp L ms_X12_personAt f0 f
set_option maxHeartbeats 4000000 in
set_option maxRecDepth 100000 in
theorem c_X12_personAt (l : Launch) (G : va_G) (cI cJ cZ cD cR cT : ClassId) (kp : Nat → Nat) (L : List Nat) (f0 : Nat → va_E) (hTH : TH cI cJ cZ cD cR cT kp L f0) (sz : Nat) (u1 : Int32) (pu1 : (-1 : Int) ≤ u1.toInt ∧ u1.toInt ≤ 40) : Met l yX12_personAt (Cond.code yX12_personAt cX12_personAt 1 (some .int) :: wTab) ({ frames := 1, cells := 0, slots := 0, locals := 40 }) (va_Pc [.int u1] (PreW G (tys6 cI cJ cZ cD cR cT) (va_pl L f0) sz)) (QT (po_X12_personAt kp L f0 u1) G cI cJ cZ cD cR cT (va_A (va_pl L f0) sz) kp L) 0 0 (va_A (va_pl L f0) sz) := by
  refine metT (by decide) (Nat.le_of_ble_eq_true rfl) hTH ?_
  intro p e s m below meth c A ls E hW hl
  obtain ⟨hx, hb, -, hml, hown, hts, -, -, -⟩ := id E
  have hF : FM kp L ms_X12_personAt f0 f0 := FM.rf
  have hl : lv_has ls 1 [(0, .int u1)] := hl
  refine lv_bipush (v := 20) hx hb dX12_personAt_0 (by decide) ?_
  refine lv_bipush (v := 8) hx hb dX12_personAt_2 (by decide) ?_
  refine lv_iload_n hx hb dX12_personAt_4 rfl (lv_at hl 0 rfl) ?_
  refine q_imul (X := 8) hx hb dX12_personAt_5 rfl rfl (by omega) (fun x1 h2 => ?_)
  refine q_iadd (X := 20) hx hb dX12_personAt_6 rfl rfl (by omega) (fun x3 h4 => ?_)
  exact e_I E hW rfl ⟨⟨_, rfl, (by first | omega | trivial)⟩, hF⟩ dX12_personAt_7
def ms_X12_fieldAt : List (Nat × Nat) := []
def po_X12_fieldAt (kp : Nat → Nat) (L : List Nat) (f0 : Nat → va_E) (u1 : Int32) : Option Value → (Nat → va_E) → Prop := fun v f => (∃ r : Int32, v = some (.int r) ∧ (r.toInt = 364 + 8 * u1.toInt)) ∧ FM kp L ms_X12_fieldAt f0 f
set_option maxHeartbeats 4000000 in
set_option maxRecDepth 100000 in
theorem c_X12_fieldAt (l : Launch) (G : va_G) (cI cJ cZ cD cR cT : ClassId) (kp : Nat → Nat) (L : List Nat) (f0 : Nat → va_E) (hTH : TH cI cJ cZ cD cR cT kp L f0) (sz : Nat) (u1 : Int32) (pu1 : (0 : Int) ≤ u1.toInt ∧ u1.toInt ≤ 40) : Met l yX12_fieldAt (Cond.code yX12_fieldAt cX12_fieldAt 1 (some .int) :: wTab) ({ frames := 1, cells := 0, slots := 0, locals := 40 }) (va_Pc [.int u1] (PreW G (tys6 cI cJ cZ cD cR cT) (va_pl L f0) sz)) (QT (po_X12_fieldAt kp L f0 u1) G cI cJ cZ cD cR cT (va_A (va_pl L f0) sz) kp L) 0 0 (va_A (va_pl L f0) sz) := by
  refine metT (by decide) (Nat.le_of_ble_eq_true rfl) hTH ?_
  intro p e s m below meth c A ls E hW hl
  obtain ⟨hx, hb, -, hml, hown, hts, -, -, -⟩ := id E
  have hF : FM kp L ms_X12_fieldAt f0 f0 := FM.rf
  have hl : lv_has ls 1 [(0, .int u1)] := hl
  refine lv_sipush (v := 364) hx hb dX12_fieldAt_0 (by decide) ?_
  refine lv_bipush (v := 8) hx hb dX12_fieldAt_3 (by decide) ?_
  refine lv_iload_n hx hb dX12_fieldAt_5 rfl (lv_at hl 0 rfl) ?_
  refine q_imul (X := 8) hx hb dX12_fieldAt_6 rfl rfl (by omega) (fun x1 h2 => ?_)
  refine q_iadd (X := 364) hx hb dX12_fieldAt_7 rfl rfl (by omega) (fun x3 h4 => ?_)
  exact e_I E hW rfl ⟨⟨_, rfl, (by first | omega | trivial)⟩, hF⟩ dX12_fieldAt_8
def ms_X12_estateAt : List (Nat × Nat) := []
def po_X12_estateAt (kp : Nat → Nat) (L : List Nat) (f0 : Nat → va_E) (u1 : Int32) : Option Value → (Nat → va_E) → Prop := fun v f => (∃ r : Int32, v = some (.int r) ∧ (r.toInt = 340 + 3 * u1.toInt)) ∧ FM kp L ms_X12_estateAt f0 f
set_option maxHeartbeats 4000000 in
set_option maxRecDepth 100000 in
theorem c_X12_estateAt (l : Launch) (G : va_G) (cI cJ cZ cD cR cT : ClassId) (kp : Nat → Nat) (L : List Nat) (f0 : Nat → va_E) (hTH : TH cI cJ cZ cD cR cT kp L f0) (sz : Nat) (u1 : Int32) (pu1 : (0 : Int) ≤ u1.toInt ∧ u1.toInt ≤ 8) : Met l yX12_estateAt (Cond.code yX12_estateAt cX12_estateAt 1 (some .int) :: wTab) ({ frames := 1, cells := 0, slots := 0, locals := 40 }) (va_Pc [.int u1] (PreW G (tys6 cI cJ cZ cD cR cT) (va_pl L f0) sz)) (QT (po_X12_estateAt kp L f0 u1) G cI cJ cZ cD cR cT (va_A (va_pl L f0) sz) kp L) 0 0 (va_A (va_pl L f0) sz) := by
  refine metT (by decide) (Nat.le_of_ble_eq_true rfl) hTH ?_
  intro p e s m below meth c A ls E hW hl
  obtain ⟨hx, hb, -, hml, hown, hts, -, -, -⟩ := id E
  have hF : FM kp L ms_X12_estateAt f0 f0 := FM.rf
  have hl : lv_has ls 1 [(0, .int u1)] := hl
  refine lv_sipush (v := 340) hx hb dX12_estateAt_0 (by decide) ?_
  refine lv_iconst (v := 3) hx hb dX12_estateAt_3 (by decide) ?_
  refine lv_iload_n hx hb dX12_estateAt_4 rfl (lv_at hl 0 rfl) ?_
  refine q_imul (X := 3) hx hb dX12_estateAt_5 rfl rfl (by omega) (fun x1 h2 => ?_)
  refine q_iadd (X := 340) hx hb dX12_estateAt_6 rfl rfl (by omega) (fun x3 h4 => ?_)
  exact e_I E hW rfl ⟨⟨_, rfl, (by first | omega | trivial)⟩, hF⟩ dX12_estateAt_7
def ms_X12_textAt : List (Nat × Nat) := []
def po_X12_textAt (kp : Nat → Nat) (L : List Nat) (f0 : Nat → va_E) (u1 : Int32) : Option Value → (Nat → va_E) → Prop := fun v f => (∃ r : Int32, v = some (.int r) ∧ (r.toInt = 17982 + 898 * u1.toInt)) ∧ FM kp L ms_X12_textAt f0 f
set_option maxHeartbeats 4000000 in
set_option maxRecDepth 100000 in
theorem c_X12_textAt (l : Launch) (G : va_G) (cI cJ cZ cD cR cT : ClassId) (kp : Nat → Nat) (L : List Nat) (f0 : Nat → va_E) (hTH : TH cI cJ cZ cD cR cT kp L f0) (sz : Nat) (u1 : Int32) (pu1 : (0 : Int) ≤ u1.toInt ∧ u1.toInt ≤ 20) : Met l yX12_textAt (Cond.code yX12_textAt cX12_textAt 1 (some .int) :: wTab) ({ frames := 1, cells := 0, slots := 0, locals := 40 }) (va_Pc [.int u1] (PreW G (tys6 cI cJ cZ cD cR cT) (va_pl L f0) sz)) (QT (po_X12_textAt kp L f0 u1) G cI cJ cZ cD cR cT (va_A (va_pl L f0) sz) kp L) 0 0 (va_A (va_pl L f0) sz) := by
  refine metT (by decide) (Nat.le_of_ble_eq_true rfl) hTH ?_
  intro p e s m below meth c A ls E hW hl
  obtain ⟨hx, hb, -, hml, hown, hts, -, -, -⟩ := id E
  have hF : FM kp L ms_X12_textAt f0 f0 := FM.rf
  have hl : lv_has ls 1 [(0, .int u1)] := hl
  refine lv_sipush (v := 17982) hx hb dX12_textAt_0 (by decide) ?_
  refine lv_sipush (v := 898) hx hb dX12_textAt_3 (by decide) ?_
  refine lv_iload_n hx hb dX12_textAt_6 rfl (lv_at hl 0 rfl) ?_
  refine q_imul (X := 898) hx hb dX12_textAt_7 rfl rfl (by omega) (fun x1 h2 => ?_)
  refine q_iadd (X := 17982) hx hb dX12_textAt_8 rfl rfl (by omega) (fun x3 h4 => ?_)
  exact e_I E hW rfl ⟨⟨_, rfl, (by first | omega | trivial)⟩, hF⟩ dX12_textAt_9
def ms_X12_clauseAt : List (Nat × Nat) := []
def po_X12_clauseAt (kp : Nat → Nat) (L : List Nat) (f0 : Nat → va_E) (u1 : Int32) (u2 : Int32) : Option Value → (Nat → va_E) → Prop := fun v f => (∃ r : Int32, v = some (.int r) ∧ (r.toInt = 17984 + 898 * u1.toInt + 8 * u2.toInt)) ∧ FM kp L ms_X12_clauseAt f0 f
set_option maxHeartbeats 4000000 in
set_option maxRecDepth 100000 in
theorem c_X12_clauseAt (l : Launch) (G : va_G) (cI cJ cZ cD cR cT : ClassId) (kp : Nat → Nat) (L : List Nat) (f0 : Nat → va_E) (hTH : TH cI cJ cZ cD cR cT kp L f0) (sz : Nat) (u1 : Int32) (u2 : Int32) (pu1 : (0 : Int) ≤ u1.toInt ∧ u1.toInt ≤ 19) (pu2 : (0 : Int) ≤ u2.toInt ∧ u2.toInt ≤ 11) : Met l yX12_clauseAt (Cond.code yX12_clauseAt cX12_clauseAt 2 (some .int) :: wTab) ({ frames := 2, cells := 0, slots := 0, locals := 60 }) (va_Pc [.int u1, .int u2] (PreW G (tys6 cI cJ cZ cD cR cT) (va_pl L f0) sz)) (QT (po_X12_clauseAt kp L f0 u1 u2) G cI cJ cZ cD cR cT (va_A (va_pl L f0) sz) kp L) 0 0 (va_A (va_pl L f0) sz) := by
  refine metT (by decide) (Nat.le_of_ble_eq_true rfl) hTH ?_
  intro p e s m below meth c A ls E hW hl
  obtain ⟨hx, hb, -, hml, hown, hts, -, -, -⟩ := id E
  have hF : FM kp L ms_X12_clauseAt f0 f0 := FM.rf
  have hl : lv_has ls 2 [(0, .int u1), (1, .int u2)] := hl
  refine lv_iload_n hx hb dX12_clauseAt_0 rfl (lv_at hl 0 rfl) ?_
  refine t_callS (As := [.int u1]) (rest := []) E hW (c_X12_textAt l G cI cJ cZ cD cR cT kp L f0 hW.2.2.2 _ u1 (by omega)) wk_X12_textAt tw_1655 rfl ⟨Nat.le_of_ble_eq_true rfl, Nat.le_of_ble_eq_true rfl⟩ ⟨rfl, rfl⟩ hl.1 rfl (Nat.le_of_ble_eq_true rfl) dX12_clauseAt_1 ⟨Nat.le_of_ble_eq_true rfl, Nat.le_of_ble_eq_true rfl⟩ (fun v1 f2 H locs q3 hW => ?_)
  obtain ⟨⟨x5, rfl, p6⟩, g4⟩ := q3
  have hF := FM.tr hF g4 rfl
  refine lv_iconst (v := 2) hx hb dX12_clauseAt_4 (by decide) ?_
  refine q_iadd (Y := 2) hx hb dX12_clauseAt_5 rfl rfl (by omega) (fun x7 h8 => ?_)
  refine lv_bipush (v := 8) hx hb dX12_clauseAt_6 (by decide) ?_
  refine lv_iload_n hx hb dX12_clauseAt_8 rfl (lv_at hl 1 rfl) ?_
  refine q_imul (X := 8) hx hb dX12_clauseAt_9 rfl rfl (by omega) (fun x9 h10 => ?_)
  refine q_iadd hx hb dX12_clauseAt_10 rfl rfl (by omega) (fun x11 h12 => ?_)
  exact e_I E hW rfl ⟨⟨_, rfl, (by first | omega | trivial)⟩, hF⟩ dX12_clauseAt_11
def rw_X12_addFour : List (Nat × Nat) := [(20, 1041)]
def ms_X12_addFour : List (Nat × Nat) := [(822, 0)]
def po_X12_addFour (kp : Nat → Nat) (L : List Nat) (f0 : Nat → va_E) (h0 : Nat) (u1 : Int32) (u2 : Int32) (u3 : Int32) (u4 : Int32) (u5 : Int32) : Option Value → (Nat → va_E) → Prop := fun v f => v = none ∧ FM kp L ms_X12_addFour f0 f ∧ (∀ j : Nat, (((j : Int) < u1.toInt ∨ u1.toInt + 3 < (j : Int))) → aI (f (oR (f0 h0) 2)) j = aI (f0 (oR (f0 h0) 2)) j) ∧ (RF rw_X12_addFour f0 f h0)
set_option maxHeartbeats 4000000 in
set_option maxRecDepth 100000 in
theorem c_X12_addFour (l : Launch) (G : va_G) (cI cJ cZ cD cR cT : ClassId) (kp : Nat → Nat) (L : List Nat) (f0 : Nat → va_E) (hTH : TH cI cJ cZ cD cR cT kp L f0) (sz : Nat) (h0 : Nat) (u1 : Int32) (u2 : Int32) (u3 : Int32) (u4 : Int32) (u5 : Int32) (rh0 : RK kp L h0 12) (pu1 : (20 : Int) ≤ u1.toInt ∧ u1.toInt ≤ 1038) (pu2 : (0 : Int) ≤ u2.toInt ∧ u2.toInt ≤ 39) (pu3 : (-1 : Int) ≤ u3.toInt ∧ u3.toInt ≤ 1000000) (pu4 : (0 : Int) ≤ u4.toInt ∧ u4.toInt ≤ 100000) (h4 : 4 ≤ u1.toInt ∧ u1.toInt + 3 < 17982 ∧ rbI u1.toInt u2.toInt ∧ rbI (u1.toInt + 1) u3.toInt ∧ rbI (u1.toInt + 2) u4.toInt ∧ rbI (u1.toInt + 3) u5.toInt) : Met l yX12_addFour (Cond.code yX12_addFour cX12_addFour 6 none :: wTab) ({ frames := 1, cells := 0, slots := 0, locals := 40 }) (va_Pc [.ref h0, .int u1, .int u2, .int u3, .int u4, .int u5] (PreW G (tys6 cI cJ cZ cD cR cT) (va_pl L f0) sz)) (QT (po_X12_addFour kp L f0 h0 u1 u2 u3 u4 u5) G cI cJ cZ cD cR cT (va_A (va_pl L f0) sz) kp L) 0 0 (va_A (va_pl L f0) sz) := by
  refine metT (by decide) (Nat.le_of_ble_eq_true rfl) hTH ?_
  intro p e s m below meth c A ls E hW hl
  obtain ⟨hx, hb, -, hml, hown, hts, -, -, -⟩ := id E
  have hF : FM kp L ms_X12_addFour f0 f0 := FM.rf
  have hl : lv_has ls 6 [(0, .ref h0), (1, .int u1), (2, .int u2), (3, .int u3), (4, .int u4), (5, .int u5)] := hl
  obtain ⟨pR, mR⟩ : ∃ x : Nat, oR (f0 h0) 2 = x := ⟨_, rfl⟩
  have rR : RK kp L pR 822 := by rw [← mR]; exact th_ref hTH rh0 (by decide) (by decide) rfl
  refine lv_aload_n hx hb dX12_addFour_0 rfl (lv_at hl 0 rfl) ?_
  refine fg_RX12_8 E hW rh0 dX12_addFour_1 (fun a1 m2 r3 => ?_)
  obtain rfl : pR = a1 := (mR).symm.trans m2
  refine lv_iload_n hx hb dX12_addFour_4 rfl (lv_at hl 1 rfl) ?_
  refine lv_iload_n hx hb dX12_addFour_5 rfl (lv_at hl 2 rfl) ?_
  refine gs_822 E hW rR ⟨by omega, by omega⟩ (fun hc => rr_up hc (by omega) (by omega) h4.2.2.1) dX12_addFour_6 (fun f4 H locs e5 n6 g7 hW => ?_)
  have z8 : RF rw_X12_addFour f0 f4 h0 := rf_st (lo := 20) (hi := 1038) rf_rf mR e5 (by omega) rfl
  have hF := FM.tr hF g7 rfl
  refine lv_aload_n hx hb dX12_addFour_7 rfl (lv_at hl 0 rfl) ?_
  refine fg_RX12_8 E hW rh0 dX12_addFour_8 (fun a9 m10 r11 => ?_)
  obtain rfl : pR = a9 := (((fm_R g7 rh0 rfl).trans m2)).symm.trans m10
  refine lv_iload_n hx hb dX12_addFour_11 rfl (lv_at hl 1 rfl) ?_
  refine lv_iconst (v := 1) hx hb dX12_addFour_12 (by decide) ?_
  refine q_iadd (Y := 1) hx hb dX12_addFour_13 rfl rfl (by omega) (fun x12 h13 => ?_)
  refine lv_iload_n hx hb dX12_addFour_14 rfl (lv_at hl 3 rfl) ?_
  refine gs_822 E hW rR ⟨by omega, by omega⟩ (fun hc => rr_up hc (by omega) (by omega) (by have e : x12.toInt = u1.toInt + 1 := (by omega); rw [e]; exact h4.2.2.2.1)) dX12_addFour_15 (fun f14 H locs e15 n16 g17 hW => ?_)
  have z18 : RF rw_X12_addFour f0 f14 h0 := rf_st (lo := 21) (hi := 1039) z8 mR e15 (by omega) rfl
  have hF := FM.tr hF g17 rfl
  refine lv_aload_n hx hb dX12_addFour_16 rfl (lv_at hl 0 rfl) ?_
  refine fg_RX12_8 E hW rh0 dX12_addFour_17 (fun a19 m20 r21 => ?_)
  obtain rfl : pR = a19 := (((fm_R g17 rh0 rfl).trans m10)).symm.trans m20
  refine lv_iload_n hx hb dX12_addFour_20 rfl (lv_at hl 1 rfl) ?_
  refine lv_iconst (v := 2) hx hb dX12_addFour_21 (by decide) ?_
  refine q_iadd (Y := 2) hx hb dX12_addFour_22 rfl rfl (by omega) (fun x22 h23 => ?_)
  refine lv_iload hx hb dX12_addFour_23 (lv_at hl 4 rfl) ?_
  refine gs_822 E hW rR ⟨by omega, by omega⟩ (fun hc => rr_up hc (by omega) (by omega) (by have e : x22.toInt = u1.toInt + 2 := (by omega); rw [e]; exact h4.2.2.2.2.1)) dX12_addFour_25 (fun f24 H locs e25 n26 g27 hW => ?_)
  have z28 : RF rw_X12_addFour f0 f24 h0 := rf_st (lo := 22) (hi := 1040) z18 mR e25 (by omega) rfl
  have hF := FM.tr hF g27 rfl
  refine lv_aload_n hx hb dX12_addFour_26 rfl (lv_at hl 0 rfl) ?_
  refine fg_RX12_8 E hW rh0 dX12_addFour_27 (fun a29 m30 r31 => ?_)
  obtain rfl : pR = a29 := (((fm_R g27 rh0 rfl).trans m20)).symm.trans m30
  refine lv_iload_n hx hb dX12_addFour_30 rfl (lv_at hl 1 rfl) ?_
  refine lv_iconst (v := 3) hx hb dX12_addFour_31 (by decide) ?_
  refine q_iadd (Y := 3) hx hb dX12_addFour_32 rfl rfl (by omega) (fun x32 h33 => ?_)
  refine lv_iload hx hb dX12_addFour_33 (lv_at hl 5 rfl) ?_
  refine gs_822 E hW rR ⟨by omega, by omega⟩ (fun hc => rr_up hc (by omega) (by omega) (by have e : x32.toInt = u1.toInt + 3 := (by omega); rw [e]; exact h4.2.2.2.2.2)) dX12_addFour_35 (fun f34 H locs e35 n36 g37 hW => ?_)
  have z38 : RF rw_X12_addFour f0 f34 h0 := rf_st (lo := 23) (hi := 1041) z28 mR e35 (by omega) rfl
  have hF := FM.tr hF g37 rfl
  exact e_V E hW rfl ⟨rfl, hF, (fun j hj => by rw [mR]; rw [e35, up_n (fun z => by have z2 := tnc (i := x32) (by omega); omega)]; rw [e25, up_n (fun z => by have z2 := tnc (i := x22) (by omega); omega)]; rw [e15, up_n (fun z => by have z2 := tnc (i := x12) (by omega); omega)]; rw [e5, up_n (fun z => by have z2 := tnc (i := u1) (by omega); omega)]), z38⟩ dX12_addFour_36
def rw_X12_person : List (Nat × Nat) := [(0, 0), (20, 1041)]
def ms_X12_person : List (Nat × Nat) := [(12, 0), (12, 1), (822, 0)]
def po_X12_person (kp : Nat → Nat) (L : List Nat) (f0 : Nat → va_E) (h0 : Nat) (u1 : Int32) (u2 : Int32) (u3 : Int32) : Option Value → (Nat → va_E) → Prop := fun v f => (∃ r : Int32, v = some (.int r) ∧ (True)) ∧ FM kp L ms_X12_person f0 f ∧ (RF rw_X12_person f0 f h0)
set_option maxHeartbeats 4000000 in
set_option maxRecDepth 100000 in
theorem c_X12_person (l : Launch) (G : va_G) (cI cJ cZ cD cR cT : ClassId) (kp : Nat → Nat) (L : List Nat) (f0 : Nat → va_E) (hTH : TH cI cJ cZ cD cR cT kp L f0) (sz : Nat) (h0 : Nat) (u1 : Int32) (u2 : Int32) (u3 : Int32) (rh0 : RK kp L h0 12) : Met l yX12_person (Cond.code yX12_person cX12_person 5 (some .int) :: wTab) ({ frames := 2, cells := 0, slots := 0, locals := 65 }) (va_Pc [.ref h0, .int u1, .int u2, .int u3] (PreW G (tys6 cI cJ cZ cD cR cT) (va_pl L f0) sz)) (QT (po_X12_person kp L f0 h0 u1 u2 u3) G cI cJ cZ cD cR cT (va_A (va_pl L f0) sz) kp L) 0 0 (va_A (va_pl L f0) sz) := by
  refine metT (by decide) (Nat.le_of_ble_eq_true rfl) hTH ?_
  intro p e s m below meth c A ls E hW hl
  obtain ⟨hx, hb, -, hml, hown, hts, -, -, -⟩ := id E
  have hF : FM kp L ms_X12_person f0 f0 := FM.rf
  have hl : lv_has ls 5 [(0, .ref h0), (1, .int u1), (2, .int u2), (3, .int u3)] := hl
  obtain ⟨pR, mR⟩ : ∃ x : Nat, oR (f0 h0) 2 = x := ⟨_, rfl⟩
  have rR : RK kp L pR 822 := by rw [← mR]; exact th_ref hTH rh0 (by decide) (by decide) rfl
  refine lv_aload_n hx hb dX12_person_0 rfl (lv_at hl 0 rfl) ?_
  refine lv_iconst (v := 0) hx hb dX12_person_1 (by decide) ?_
  refine fp_RX12_82 E hW rh0 dX12_person_2 (fun f1 H locs e2 n3 g4 hW => ?_)
  have z5 : RF rw_X12_person f0 f1 h0 := rf_fm hTH rf_rf g4 rh0 rfl
  have hF := FM.tr hF g4 rfl
  refine lv_iload_n hx hb dX12_person_5 rfl (lv_at hl 1 rfl) ?_
  refine q_i2l hx hb dX12_person_6 rfl (fun x6 h7 => ?_)
  have hb8 : -2147483648 ≤ x6.toInt ∧ x6.toInt ≤ 2147483647 := by have := i32_b u1; omega
  refine lv_lconst (v := 0) hx hb dX12_person_7 (by decide) ?_
  refine lv_ldc2 (v := 19) hx hb hown (hts _ tw_1569) dX12_person_8 ?_
  refine t_callS (As := [.long x6, .long 0, .long 19]) (rest := []) E hW (c_X12_in l G cI cJ cZ cD cR cT kp L f1 hW.2.2.2 _ x6 0 19) wk_X12_in tw_1554 rfl ⟨Nat.le_of_ble_eq_true rfl, Nat.le_of_ble_eq_true rfl⟩ ⟨rfl, rfl⟩ hl.1 rfl (Nat.le_of_ble_eq_true rfl) dX12_person_11 ⟨Nat.le_of_ble_eq_true rfl, Nat.le_of_ble_eq_true rfl⟩ (fun v9 f10 H locs q11 hW => ?_)
  obtain ⟨⟨x13, rfl, p14⟩, g12⟩ := q11
  have p14 : (x13.toInt = 1 ∧ 0 ≤ x6.toInt ∧ x6.toInt ≤ 19) ∨ (x13.toInt = 0 ∧ (x6.toInt < 0 ∨ 19 < x6.toInt)) := p14
  have z15 : RF rw_X12_person f0 f10 h0 := rf_fm hTH z5 g12 rh0 rfl
  have hF := FM.tr hF g12 rfl
  refine q_if_eq (tgt := 41) hx hb dX12_person_14 (by decide) rfl (fun c16 => ?_) (fun c16 => ?_)
  · have q17 : (x6.toInt < 0 ∨ 19 < x6.toInt) := by omega
    clear p14
    refine lv_aload_n hx hb dX12_person_41 rfl (lv_at hl 0 rfl) ?_
    refine lv_iconst (v := (-1)) hx hb dX12_person_42 (by decide) ?_
    refine t_callV (As := [.int (-1)]) (rest := []) E hW (c_X12_told l G cI cJ cZ cD cR cT kp L f10 hW.2.2.2 _ h0 (-1) rh0) rh0 (by decide) rfl wk_X12_told tw_1557 rfl ⟨Nat.le_of_ble_eq_true rfl, Nat.le_of_ble_eq_true rfl⟩ ⟨rfl, rfl⟩ hl.1 rfl (Nat.le_of_ble_eq_true rfl) dX12_person_43 ⟨Nat.le_of_ble_eq_true rfl, Nat.le_of_ble_eq_true rfl⟩ (fun v18 f19 H locs q20 hW => ?_)
    obtain ⟨⟨x22, rfl, p23⟩, g21⟩ := q20
    clear p23
    have z24 : RF rw_X12_person f0 f19 h0 := rf_fm hTH z15 g21 rh0 rfl
    have hF := FM.tr hF g21 rfl
    exact e_I E hW rfl ⟨⟨_, rfl, trivial⟩, hF, z24⟩ dX12_person_46
  · have q25 : 0 ≤ x6.toInt ∧ x6.toInt ≤ 19 := by omega
    clear p14
    refine lv_iload_n hx hb dX12_person_17 rfl (lv_at hl 2 rfl) ?_
    refine q_i2l hx hb dX12_person_18 rfl (fun x26 h27 => ?_)
    have hb28 : -2147483648 ≤ x26.toInt ∧ x26.toInt ≤ 2147483647 := by have := i32_b u2; omega
    refine lv_lconst (v := 0) hx hb dX12_person_19 (by decide) ?_
    refine lv_ldc2 (v := 1000000) hx hb hown (hts _ tw_1570) dX12_person_20 ?_
    refine t_callS (As := [.long x26, .long 0, .long 1000000]) (rest := []) E hW (c_X12_in l G cI cJ cZ cD cR cT kp L f10 hW.2.2.2 _ x26 0 1000000) wk_X12_in tw_1554 rfl ⟨Nat.le_of_ble_eq_true rfl, Nat.le_of_ble_eq_true rfl⟩ ⟨rfl, rfl⟩ hl.1 rfl (Nat.le_of_ble_eq_true rfl) dX12_person_23 ⟨Nat.le_of_ble_eq_true rfl, Nat.le_of_ble_eq_true rfl⟩ (fun v29 f30 H locs q31 hW => ?_)
    obtain ⟨⟨x33, rfl, p34⟩, g32⟩ := q31
    have p34 : (x33.toInt = 1 ∧ 0 ≤ x26.toInt ∧ x26.toInt ≤ 1000000) ∨ (x33.toInt = 0 ∧ (x26.toInt < 0 ∨ 1000000 < x26.toInt)) := p34
    have z35 : RF rw_X12_person f0 f30 h0 := rf_fm hTH z15 g32 rh0 rfl
    have hF := FM.tr hF g32 rfl
    refine q_if_eq (tgt := 41) hx hb dX12_person_26 (by decide) rfl (fun c36 => ?_) (fun c36 => ?_)
    · have q37 : (x26.toInt < 0 ∨ 1000000 < x26.toInt) := by omega
      clear p34
      refine lv_aload_n hx hb dX12_person_41 rfl (lv_at hl 0 rfl) ?_
      refine lv_iconst (v := (-1)) hx hb dX12_person_42 (by decide) ?_
      refine t_callV (As := [.int (-1)]) (rest := []) E hW (c_X12_told l G cI cJ cZ cD cR cT kp L f30 hW.2.2.2 _ h0 (-1) rh0) rh0 (by decide) rfl wk_X12_told tw_1557 rfl ⟨Nat.le_of_ble_eq_true rfl, Nat.le_of_ble_eq_true rfl⟩ ⟨rfl, rfl⟩ hl.1 rfl (Nat.le_of_ble_eq_true rfl) dX12_person_43 ⟨Nat.le_of_ble_eq_true rfl, Nat.le_of_ble_eq_true rfl⟩ (fun v38 f39 H locs q40 hW => ?_)
      obtain ⟨⟨x42, rfl, p43⟩, g41⟩ := q40
      clear p43
      have z44 : RF rw_X12_person f0 f39 h0 := rf_fm hTH z35 g41 rh0 rfl
      have hF := FM.tr hF g41 rfl
      exact e_I E hW rfl ⟨⟨_, rfl, trivial⟩, hF, z44⟩ dX12_person_46
    · have q45 : 0 ≤ x26.toInt ∧ x26.toInt ≤ 1000000 := by omega
      clear p34
      refine lv_iload_n hx hb dX12_person_29 rfl (lv_at hl 3 rfl) ?_
      refine q_i2l hx hb dX12_person_30 rfl (fun x46 h47 => ?_)
      have hb48 : -2147483648 ≤ x46.toInt ∧ x46.toInt ≤ 2147483647 := by have := i32_b u3; omega
      refine lv_lconst (v := 0) hx hb dX12_person_31 (by decide) ?_
      refine lv_ldc2 (v := 100) hx hb hown (hts _ tw_1571) dX12_person_32 ?_
      refine t_callS (As := [.long x46, .long 0, .long 100]) (rest := []) E hW (c_X12_in l G cI cJ cZ cD cR cT kp L f30 hW.2.2.2 _ x46 0 100) wk_X12_in tw_1554 rfl ⟨Nat.le_of_ble_eq_true rfl, Nat.le_of_ble_eq_true rfl⟩ ⟨rfl, rfl⟩ hl.1 rfl (Nat.le_of_ble_eq_true rfl) dX12_person_35 ⟨Nat.le_of_ble_eq_true rfl, Nat.le_of_ble_eq_true rfl⟩ (fun v49 f50 H locs q51 hW => ?_)
      obtain ⟨⟨x53, rfl, p54⟩, g52⟩ := q51
      have p54 : (x53.toInt = 1 ∧ 0 ≤ x46.toInt ∧ x46.toInt ≤ 100) ∨ (x53.toInt = 0 ∧ (x46.toInt < 0 ∨ 100 < x46.toInt)) := p54
      have z55 : RF rw_X12_person f0 f50 h0 := rf_fm hTH z35 g52 rh0 rfl
      have hF := FM.tr hF g52 rfl
      refine q_if_ne (tgt := 47) hx hb dX12_person_38 (by decide) rfl (fun c56 => ?_) (fun c56 => ?_)
      · have q57 : 0 ≤ x46.toInt ∧ x46.toInt ≤ 100 := by omega
        clear p54
        refine lv_aload_n hx hb dX12_person_47 rfl (lv_at hl 0 rfl) ?_
        refine fg_RX12_8 E hW rh0 dX12_person_48 (fun a58 m59 r60 => ?_)
        obtain rfl : pR = a58 := (((fm_R g52 rh0 rfl).trans ((fm_R g32 rh0 rfl).trans ((fm_R g12 rh0 rfl).trans ((fm_R g4 rh0 rfl).trans mR))))).symm.trans m59
        refine lv_iconst (v := 0) hx hb dX12_person_51 (by decide) ?_
        refine gl_822 E hW rR (by decide) dX12_person_52 (fun y61 m62 b63 => ?_)
        have b64 := rr_0 (show RowInv _ from b63) m62 (by decide)
        refine lv_bipush (v := 40) hx hb dX12_person_53 (by decide) ?_
        refine q_icmp_ne (Y := 40) (tgt := 65) hx hb dX12_person_55 (by decide) rfl rfl (fun c65 => ?_) (fun c65 => ?_)
        · refine lv_aload_n hx hb dX12_person_65 rfl (lv_at hl 0 rfl) ?_
          refine fg_RX12_8 E hW rh0 dX12_person_66 (fun a66 m67 r68 => ?_)
          obtain rfl : pR = a66 := (m59).symm.trans m67
          refine lv_iconst (v := 0) hx hb dX12_person_69 (by decide) ?_
          refine gl_822 E hW rR (by decide) dX12_person_70 (fun y69 m70 b71 => ?_)
          obtain rfl : y61 = y69 := (m62).symm.trans m70
          refine t_callS (As := [.int y61]) (rest := []) E hW (c_X12_personAt l G cI cJ cZ cD cR cT kp L f50 hW.2.2.2 _ y61 (by omega)) wk_X12_personAt tw_1572 rfl ⟨Nat.le_of_ble_eq_true rfl, Nat.le_of_ble_eq_true rfl⟩ ⟨rfl, rfl⟩ hl.1 rfl (Nat.le_of_ble_eq_true rfl) dX12_person_71 ⟨Nat.le_of_ble_eq_true rfl, Nat.le_of_ble_eq_true rfl⟩ (fun v72 f73 H locs q74 hW => ?_)
          obtain ⟨⟨x76, rfl, p77⟩, g75⟩ := q74
          have z78 : RF rw_X12_person f0 f73 h0 := rf_fm hTH z55 g75 rh0 rfl
          have hF := FM.tr hF g75 rfl
          refine lv_istore (lv' := [(4, .int x76), (0, .ref h0), (1, .int u1), (2, .int u2), (3, .int u3)]) hx hb dX12_person_74 hl (by decide) rfl (fun ls hl => ?_)
          refine lv_aload_n hx hb dX12_person_76 rfl (lv_at hl 1 rfl) ?_
          refine lv_iload hx hb dX12_person_77 (lv_at hl 0 rfl) ?_
          refine lv_iload_n hx hb dX12_person_79 rfl (lv_at hl 2 rfl) ?_
          refine lv_iload_n hx hb dX12_person_80 rfl (lv_at hl 3 rfl) ?_
          refine lv_iload_n hx hb dX12_person_81 rfl (lv_at hl 4 rfl) ?_
          refine lv_iconst (v := (-1)) hx hb dX12_person_82 (by decide) ?_
          have hk79 : ((-1) : Int32).toInt = -1 := rfl
          refine t_callV (As := [.int x76, .int u1, .int u2, .int u3, .int (-1)]) (rest := []) E hW (c_X12_addFour l G cI cJ cZ cD cR cT kp L f73 hW.2.2.2 _ h0 x76 u1 u2 u3 (-1) rh0 (by omega) (by omega) (by omega) (by omega) ⟨by omega, by omega, by unfold rbI; omega, by unfold rbI; omega, by unfold rbI; omega, by unfold rbI; omega⟩) rh0 (by decide) rfl wk_X12_addFour tw_1575 rfl ⟨Nat.le_of_ble_eq_true rfl, Nat.le_of_ble_eq_true rfl⟩ ⟨rfl, rfl⟩ hl.1 rfl (Nat.le_of_ble_eq_true rfl) dX12_person_83 ⟨Nat.le_of_ble_eq_true rfl, Nat.le_of_ble_eq_true rfl⟩ (fun v80 f81 H locs q82 hW => ?_)
          obtain ⟨rfl, g83, h84, h85⟩ := q82
          have z86 : RF rw_X12_person f0 f81 h0 := rf_call z78 h85 mR ((fm_R g75 rh0 rfl).trans m67) rfl
          have hF := FM.tr hF g83 rfl
          have m87 : aI (f81 pR) (0 : Int32).toNatClampNeg = y61 := by
            have z := h84
            rw [((fm_R g75 rh0 rfl).trans m67)] at z
            have z2 := tnc (i := 0) (by first | omega | decide)
            have hk : (0 : Int32).toInt = 0 := rfl
            exact (z _ (by omega)).trans ((congrArg (fun z => aI z (0 : Int32).toNatClampNeg) (fm_A g75 rR (by decide) rfl)).trans m70)
          refine lv_aload_n hx hb dX12_person_86 rfl (lv_at hl 1 rfl) ?_
          refine lv_iload hx hb dX12_person_87 (lv_at hl 0 rfl) ?_
          refine lv_iconst (v := 4) hx hb dX12_person_89 (by decide) ?_
          refine q_iadd (Y := 4) hx hb dX12_person_90 rfl rfl (by omega) (fun x88 h89 => ?_)
          refine lv_iconst (v := 0) hx hb dX12_person_91 (by decide) ?_
          refine lv_iconst (v := 0) hx hb dX12_person_92 (by decide) ?_
          refine lv_iconst (v := 0) hx hb dX12_person_93 (by decide) ?_
          refine lv_iconst (v := (-1)) hx hb dX12_person_94 (by decide) ?_
          have hk90 : (0 : Int32).toInt = 0 := rfl
          have hk91 : (0 : Int32).toInt = 0 := rfl
          have hk92 : (0 : Int32).toInt = 0 := rfl
          have hk93 : ((-1) : Int32).toInt = -1 := rfl
          refine t_callV (As := [.int x88, .int 0, .int 0, .int 0, .int (-1)]) (rest := []) E hW (c_X12_addFour l G cI cJ cZ cD cR cT kp L f81 hW.2.2.2 _ h0 x88 0 0 0 (-1) rh0 (by omega) (by decide) (by decide) (by decide) ⟨by omega, by omega, by unfold rbI; omega, by unfold rbI; omega, by unfold rbI; omega, by unfold rbI; omega⟩) rh0 (by decide) rfl wk_X12_addFour tw_1575 rfl ⟨Nat.le_of_ble_eq_true rfl, Nat.le_of_ble_eq_true rfl⟩ ⟨rfl, rfl⟩ hl.1 rfl (Nat.le_of_ble_eq_true rfl) dX12_person_95 ⟨Nat.le_of_ble_eq_true rfl, Nat.le_of_ble_eq_true rfl⟩ (fun v94 f95 H locs q96 hW => ?_)
          obtain ⟨rfl, g97, h98, h99⟩ := q96
          have z100 : RF rw_X12_person f0 f95 h0 := rf_call z86 h99 mR ((fm_R g83 rh0 rfl).trans ((fm_R g75 rh0 rfl).trans m67)) rfl
          have hF := FM.tr hF g97 rfl
          have m101 : aI (f95 pR) (0 : Int32).toNatClampNeg = y61 := by
            have z := h98
            rw [((fm_R g83 rh0 rfl).trans ((fm_R g75 rh0 rfl).trans m67))] at z
            have z2 := tnc (i := 0) (by first | omega | decide)
            have hk : (0 : Int32).toInt = 0 := rfl
            exact (z _ (by omega)).trans m87
          refine lv_aload_n hx hb dX12_person_98 rfl (lv_at hl 1 rfl) ?_
          refine fg_RX12_8 E hW rh0 dX12_person_99 (fun a102 m103 r104 => ?_)
          obtain rfl : pR = a102 := (((fm_R g97 rh0 rfl).trans ((fm_R g83 rh0 rfl).trans ((fm_R g75 rh0 rfl).trans m67)))).symm.trans m103
          refine lv_iconst (v := 0) hx hb dX12_person_102 (by decide) ?_
          refine lv_dup2_11 hx hb dX12_person_103 rfl rfl ?_
          refine gl_822 E hW rR (by decide) dX12_person_104 (fun y105 m106 b107 => ?_)
          obtain rfl : y61 = y105 := (m101).symm.trans m106
          refine lv_iconst (v := 1) hx hb dX12_person_105 (by decide) ?_
          refine q_iadd (Y := 1) hx hb dX12_person_106 rfl rfl (by omega) (fun x108 h109 => ?_)
          have hk110 : (0 : Int32).toInt = 0 := rfl
          refine gs_822 E hW rR (by decide) (fun hc => rr_up hc (by omega) (by omega) (by unfold rbI; omega)) dX12_person_107 (fun f111 H locs e112 n113 g114 hW => ?_)
          have m115 : oI (f111 h0) 0 = 0 := ((fm_I g114 rh0 rfl).trans ((fm_I g97 rh0 rfl).trans ((fm_I g83 rh0 rfl).trans ((fm_I g75 rh0 rfl).trans ((fm_I g52 rh0 rfl).trans ((fm_I g32 rh0 rfl).trans ((fm_I g12 rh0 rfl).trans e2)))))))
          have z116 : RF rw_X12_person f0 f111 h0 := rf_st (lo := 0) (hi := 0) z100 mR e112 (by decide) rfl
          have hF := FM.tr hF g114 rfl
          refine lv_aload_n hx hb dX12_person_108 rfl (lv_at hl 1 rfl) ?_
          refine lv_aload_n hx hb dX12_person_109 rfl (lv_at hl 1 rfl) ?_
          refine fg_RX12_8 E hW rh0 dX12_person_110 (fun a117 m118 r119 => ?_)
          obtain rfl : pR = a117 := (((fm_R g114 rh0 rfl).trans m103)).symm.trans m118
          refine lv_iconst (v := 0) hx hb dX12_person_113 (by decide) ?_
          refine gl_822 E hW rR (by decide) dX12_person_114 (fun y120 m121 b122 => ?_)
          obtain rfl : x108 = y120 := ((show aI (f111 pR) (0 : Int32).toNatClampNeg = x108 from by rw [e112]; exact up_s)).symm.trans m121
          refine lv_iconst (v := 1) hx hb dX12_person_115 (by decide) ?_
          refine q_isub (Y := 1) hx hb dX12_person_116 rfl rfl (by omega) (fun x123 h124 => ?_)
          refine t_callV (As := [.int x123]) (rest := []) E hW (c_X12_told l G cI cJ cZ cD cR cT kp L f111 hW.2.2.2 _ h0 x123 rh0) rh0 (by decide) rfl wk_X12_told tw_1557 rfl ⟨Nat.le_of_ble_eq_true rfl, Nat.le_of_ble_eq_true rfl⟩ ⟨rfl, rfl⟩ hl.1 rfl (Nat.le_of_ble_eq_true rfl) dX12_person_117 ⟨Nat.le_of_ble_eq_true rfl, Nat.le_of_ble_eq_true rfl⟩ (fun v125 f126 H locs q127 hW => ?_)
          obtain ⟨⟨x129, rfl, p130⟩, g128⟩ := q127
          clear p130
          have z131 : RF rw_X12_person f0 f126 h0 := rf_fm hTH z116 g128 rh0 rfl
          have hF := FM.tr hF g128 rfl
          exact e_I E hW rfl ⟨⟨_, rfl, trivial⟩, hF, z131⟩ dX12_person_120
        · refine lv_aload_n hx hb dX12_person_58 rfl (lv_at hl 0 rfl) ?_
          refine lv_bipush (v := (-5)) hx hb dX12_person_59 (by decide) ?_
          refine t_callV (As := [.int (-5)]) (rest := []) E hW (c_X12_told l G cI cJ cZ cD cR cT kp L f50 hW.2.2.2 _ h0 (-5) rh0) rh0 (by decide) rfl wk_X12_told tw_1557 rfl ⟨Nat.le_of_ble_eq_true rfl, Nat.le_of_ble_eq_true rfl⟩ ⟨rfl, rfl⟩ hl.1 rfl (Nat.le_of_ble_eq_true rfl) dX12_person_61 ⟨Nat.le_of_ble_eq_true rfl, Nat.le_of_ble_eq_true rfl⟩ (fun v132 f133 H locs q134 hW => ?_)
          obtain ⟨⟨x136, rfl, p137⟩, g135⟩ := q134
          clear p137
          have z138 : RF rw_X12_person f0 f133 h0 := rf_fm hTH z55 g135 rh0 rfl
          have hF := FM.tr hF g135 rfl
          exact e_I E hW rfl ⟨⟨_, rfl, trivial⟩, hF, z138⟩ dX12_person_64
      · have q139 : (x46.toInt < 0 ∨ 100 < x46.toInt) := by omega
        clear p54
        refine lv_aload_n hx hb dX12_person_41 rfl (lv_at hl 0 rfl) ?_
        refine lv_iconst (v := (-1)) hx hb dX12_person_42 (by decide) ?_
        refine t_callV (As := [.int (-1)]) (rest := []) E hW (c_X12_told l G cI cJ cZ cD cR cT kp L f50 hW.2.2.2 _ h0 (-1) rh0) rh0 (by decide) rfl wk_X12_told tw_1557 rfl ⟨Nat.le_of_ble_eq_true rfl, Nat.le_of_ble_eq_true rfl⟩ ⟨rfl, rfl⟩ hl.1 rfl (Nat.le_of_ble_eq_true rfl) dX12_person_43 ⟨Nat.le_of_ble_eq_true rfl, Nat.le_of_ble_eq_true rfl⟩ (fun v140 f141 H locs q142 hW => ?_)
        obtain ⟨⟨x144, rfl, p145⟩, g143⟩ := q142
        clear p145
        have z146 : RF rw_X12_person f0 f141 h0 := rf_fm hTH z55 g143 rh0 rfl
        have hF := FM.tr hF g143 rfl
        exact e_I E hW rfl ⟨⟨_, rfl, trivial⟩, hF, z146⟩ dX12_person_46
def rw_X12_heed : List (Nat × Nat) := [(23, 335)]
def ms_X12_heed : List (Nat × Nat) := [(12, 0), (12, 1), (822, 0)]
def po_X12_heed (kp : Nat → Nat) (L : List Nat) (f0 : Nat → va_E) (h0 : Nat) (u1 : Int32) (u2 : Int32) : Option Value → (Nat → va_E) → Prop := fun v f => (∃ r : Int32, v = some (.int r) ∧ (True)) ∧ FM kp L ms_X12_heed f0 f ∧ (RF rw_X12_heed f0 f h0)
set_option maxHeartbeats 4000000 in
set_option maxRecDepth 100000 in
theorem c_X12_heed (l : Launch) (G : va_G) (cI cJ cZ cD cR cT : ClassId) (kp : Nat → Nat) (L : List Nat) (f0 : Nat → va_E) (hTH : TH cI cJ cZ cD cR cT kp L f0) (sz : Nat) (h0 : Nat) (u1 : Int32) (u2 : Int32) (rh0 : RK kp L h0 12) : Met l yX12_heed (Cond.code yX12_heed cX12_heed 3 (some .int) :: wTab) ({ frames := 3, cells := 0, slots := 0, locals := 86 }) (va_Pc [.ref h0, .int u1, .int u2] (PreW G (tys6 cI cJ cZ cD cR cT) (va_pl L f0) sz)) (QT (po_X12_heed kp L f0 h0 u1 u2) G cI cJ cZ cD cR cT (va_A (va_pl L f0) sz) kp L) 0 0 (va_A (va_pl L f0) sz) := by
  refine metT (by decide) (Nat.le_of_ble_eq_true rfl) hTH ?_
  intro p e s m below meth c A ls E hW hl
  obtain ⟨hx, hb, -, hml, hown, hts, -, -, -⟩ := id E
  have hF : FM kp L ms_X12_heed f0 f0 := FM.rf
  have hl : lv_has ls 3 [(0, .ref h0), (1, .int u1), (2, .int u2)] := hl
  obtain ⟨pR, mR⟩ : ∃ x : Nat, oR (f0 h0) 2 = x := ⟨_, rfl⟩
  have rR : RK kp L pR 822 := by rw [← mR]; exact th_ref hTH rh0 (by decide) (by decide) rfl
  refine lv_aload_n hx hb dX12_heed_0 rfl (lv_at hl 0 rfl) ?_
  refine lv_iconst (v := 0) hx hb dX12_heed_1 (by decide) ?_
  refine fp_RX12_82 E hW rh0 dX12_heed_2 (fun f1 H locs e2 n3 g4 hW => ?_)
  have z5 : RF rw_X12_heed f0 f1 h0 := rf_fm hTH rf_rf g4 rh0 rfl
  have hF := FM.tr hF g4 rfl
  refine lv_aload_n hx hb dX12_heed_5 rfl (lv_at hl 0 rfl) ?_
  refine lv_iload_n hx hb dX12_heed_6 rfl (lv_at hl 1 rfl) ?_
  refine t_callV (As := [.int u1]) (rest := []) E hW (c_X12_isPerson l G cI cJ cZ cD cR cT kp L f1 hW.2.2.2 _ h0 u1 rh0) rh0 (by decide) rfl wk_X12_isPerson tw_1583 rfl ⟨Nat.le_of_ble_eq_true rfl, Nat.le_of_ble_eq_true rfl⟩ ⟨rfl, rfl⟩ hl.1 rfl (Nat.le_of_ble_eq_true rfl) dX12_heed_7 ⟨Nat.le_of_ble_eq_true rfl, Nat.le_of_ble_eq_true rfl⟩ (fun v6 f7 H locs q8 hW => ?_)
  obtain ⟨⟨x10, rfl, p11⟩, g9⟩ := q8
  have z12 : RF rw_X12_heed f0 f7 h0 := rf_fm hTH z5 g9 rh0 rfl
  have hF := FM.tr hF g9 rfl
  refine q_if_eq (tgt := 26) hx hb dX12_heed_10 (by decide) rfl (fun c13 => ?_) (fun c13 => ?_)
  · clear p11
    refine lv_aload_n hx hb dX12_heed_26 rfl (lv_at hl 0 rfl) ?_
    refine lv_bipush (v := (-2)) hx hb dX12_heed_27 (by decide) ?_
    refine t_callV (As := [.int (-2)]) (rest := []) E hW (c_X12_told l G cI cJ cZ cD cR cT kp L f7 hW.2.2.2 _ h0 (-2) rh0) rh0 (by decide) rfl wk_X12_told tw_1557 rfl ⟨Nat.le_of_ble_eq_true rfl, Nat.le_of_ble_eq_true rfl⟩ ⟨rfl, rfl⟩ hl.1 rfl (Nat.le_of_ble_eq_true rfl) dX12_heed_29 ⟨Nat.le_of_ble_eq_true rfl, Nat.le_of_ble_eq_true rfl⟩ (fun v14 f15 H locs q16 hW => ?_)
    obtain ⟨⟨x18, rfl, p19⟩, g17⟩ := q16
    clear p19
    have z20 : RF rw_X12_heed f0 f15 h0 := rf_fm hTH z12 g17 rh0 rfl
    have hF := FM.tr hF g17 rfl
    exact e_I E hW rfl ⟨⟨_, rfl, trivial⟩, hF, z20⟩ dX12_heed_32
  · have q21 : 0 ≤ u1.toInt ∧ u1.toInt ≤ 39 := by omega
    clear p11
    refine lv_iload_n hx hb dX12_heed_13 rfl (lv_at hl 2 rfl) ?_
    refine lv_iconst (v := (-1)) hx hb dX12_heed_14 (by decide) ?_
    refine q_icmp_eq (Y := -1) (tgt := 33) hx hb dX12_heed_15 (by decide) rfl rfl (fun c22 => ?_) (fun c22 => ?_)
    · refine lv_iload_n hx hb dX12_heed_33 rfl (lv_at hl 1 rfl) ?_
      refine lv_iload_n hx hb dX12_heed_34 rfl (lv_at hl 2 rfl) ?_
      refine q_icmp_ne (tgt := 45) hx hb dX12_heed_35 (by decide) rfl rfl (fun c23 => ?_) (fun c23 => ?_)
      · refine lv_aload_n hx hb dX12_heed_45 rfl (lv_at hl 0 rfl) ?_
        refine fg_RX12_8 E hW rh0 dX12_heed_46 (fun a24 m25 r26 => ?_)
        obtain rfl : pR = a24 := (((fm_R g9 rh0 rfl).trans ((fm_R g4 rh0 rfl).trans mR))).symm.trans m25
        refine lv_iload_n hx hb dX12_heed_49 rfl (lv_at hl 1 rfl) ?_
        refine t_callS (As := [.int u1]) (rest := [.ref pR]) E hW (c_X12_personAt l G cI cJ cZ cD cR cT kp L f7 hW.2.2.2 _ u1 (by omega)) wk_X12_personAt tw_1572 rfl ⟨Nat.le_of_ble_eq_true rfl, Nat.le_of_ble_eq_true rfl⟩ ⟨rfl, rfl⟩ hl.1 rfl (Nat.le_of_ble_eq_true rfl) dX12_heed_50 ⟨Nat.le_of_ble_eq_true rfl, Nat.le_of_ble_eq_true rfl⟩ (fun v27 f28 H locs q29 hW => ?_)
        obtain ⟨⟨x31, rfl, p32⟩, g30⟩ := q29
        have z33 : RF rw_X12_heed f0 f28 h0 := rf_fm hTH z12 g30 rh0 rfl
        have hF := FM.tr hF g30 rfl
        refine lv_iconst (v := 3) hx hb dX12_heed_53 (by decide) ?_
        refine q_iadd (Y := 3) hx hb dX12_heed_54 rfl rfl (by omega) (fun x34 h35 => ?_)
        refine lv_iload_n hx hb dX12_heed_55 rfl (lv_at hl 2 rfl) ?_
        refine gs_822 E hW rR ⟨by omega, by omega⟩ (fun hc => rr_up hc (by omega) (by omega) (by unfold rbI; omega)) dX12_heed_56 (fun f36 H locs e37 n38 g39 hW => ?_)
        have z40 : RF rw_X12_heed f0 f36 h0 := rf_st (lo := 23) (hi := 335) z33 mR e37 (by omega) rfl
        have hF := FM.tr hF g39 rfl
        refine lv_aload_n hx hb dX12_heed_57 rfl (lv_at hl 0 rfl) ?_
        refine lv_iconst (v := 0) hx hb dX12_heed_58 (by decide) ?_
        refine t_callV (As := [.int 0]) (rest := []) E hW (c_X12_told l G cI cJ cZ cD cR cT kp L f36 hW.2.2.2 _ h0 0 rh0) rh0 (by decide) rfl wk_X12_told tw_1557 rfl ⟨Nat.le_of_ble_eq_true rfl, Nat.le_of_ble_eq_true rfl⟩ ⟨rfl, rfl⟩ hl.1 rfl (Nat.le_of_ble_eq_true rfl) dX12_heed_59 ⟨Nat.le_of_ble_eq_true rfl, Nat.le_of_ble_eq_true rfl⟩ (fun v41 f42 H locs q43 hW => ?_)
        obtain ⟨⟨x45, rfl, p46⟩, g44⟩ := q43
        clear p46
        have z47 : RF rw_X12_heed f0 f42 h0 := rf_fm hTH z40 g44 rh0 rfl
        have hF := FM.tr hF g44 rfl
        exact e_I E hW rfl ⟨⟨_, rfl, trivial⟩, hF, z47⟩ dX12_heed_62
      · exfalso; omega
    · refine lv_aload_n hx hb dX12_heed_18 rfl (lv_at hl 0 rfl) ?_
      refine lv_iload_n hx hb dX12_heed_19 rfl (lv_at hl 2 rfl) ?_
      refine t_callV (As := [.int u2]) (rest := []) E hW (c_X12_isPerson l G cI cJ cZ cD cR cT kp L f7 hW.2.2.2 _ h0 u2 rh0) rh0 (by decide) rfl wk_X12_isPerson tw_1583 rfl ⟨Nat.le_of_ble_eq_true rfl, Nat.le_of_ble_eq_true rfl⟩ ⟨rfl, rfl⟩ hl.1 rfl (Nat.le_of_ble_eq_true rfl) dX12_heed_20 ⟨Nat.le_of_ble_eq_true rfl, Nat.le_of_ble_eq_true rfl⟩ (fun v48 f49 H locs q50 hW => ?_)
      obtain ⟨⟨x52, rfl, p53⟩, g51⟩ := q50
      have z54 : RF rw_X12_heed f0 f49 h0 := rf_fm hTH z12 g51 rh0 rfl
      have hF := FM.tr hF g51 rfl
      refine q_if_ne (tgt := 33) hx hb dX12_heed_23 (by decide) rfl (fun c55 => ?_) (fun c55 => ?_)
      · have q56 : 0 ≤ u2.toInt ∧ u2.toInt ≤ 39 := by omega
        clear p53
        refine lv_iload_n hx hb dX12_heed_33 rfl (lv_at hl 1 rfl) ?_
        refine lv_iload_n hx hb dX12_heed_34 rfl (lv_at hl 2 rfl) ?_
        refine q_icmp_ne (tgt := 45) hx hb dX12_heed_35 (by decide) rfl rfl (fun c57 => ?_) (fun c57 => ?_)
        · refine lv_aload_n hx hb dX12_heed_45 rfl (lv_at hl 0 rfl) ?_
          refine fg_RX12_8 E hW rh0 dX12_heed_46 (fun a58 m59 r60 => ?_)
          obtain rfl : pR = a58 := (((fm_R g51 rh0 rfl).trans ((fm_R g9 rh0 rfl).trans ((fm_R g4 rh0 rfl).trans mR)))).symm.trans m59
          refine lv_iload_n hx hb dX12_heed_49 rfl (lv_at hl 1 rfl) ?_
          refine t_callS (As := [.int u1]) (rest := [.ref pR]) E hW (c_X12_personAt l G cI cJ cZ cD cR cT kp L f49 hW.2.2.2 _ u1 (by omega)) wk_X12_personAt tw_1572 rfl ⟨Nat.le_of_ble_eq_true rfl, Nat.le_of_ble_eq_true rfl⟩ ⟨rfl, rfl⟩ hl.1 rfl (Nat.le_of_ble_eq_true rfl) dX12_heed_50 ⟨Nat.le_of_ble_eq_true rfl, Nat.le_of_ble_eq_true rfl⟩ (fun v61 f62 H locs q63 hW => ?_)
          obtain ⟨⟨x65, rfl, p66⟩, g64⟩ := q63
          have z67 : RF rw_X12_heed f0 f62 h0 := rf_fm hTH z54 g64 rh0 rfl
          have hF := FM.tr hF g64 rfl
          refine lv_iconst (v := 3) hx hb dX12_heed_53 (by decide) ?_
          refine q_iadd (Y := 3) hx hb dX12_heed_54 rfl rfl (by omega) (fun x68 h69 => ?_)
          refine lv_iload_n hx hb dX12_heed_55 rfl (lv_at hl 2 rfl) ?_
          refine gs_822 E hW rR ⟨by omega, by omega⟩ (fun hc => rr_up hc (by omega) (by omega) (by unfold rbI; omega)) dX12_heed_56 (fun f70 H locs e71 n72 g73 hW => ?_)
          have z74 : RF rw_X12_heed f0 f70 h0 := rf_st (lo := 23) (hi := 335) z67 mR e71 (by omega) rfl
          have hF := FM.tr hF g73 rfl
          refine lv_aload_n hx hb dX12_heed_57 rfl (lv_at hl 0 rfl) ?_
          refine lv_iconst (v := 0) hx hb dX12_heed_58 (by decide) ?_
          refine t_callV (As := [.int 0]) (rest := []) E hW (c_X12_told l G cI cJ cZ cD cR cT kp L f70 hW.2.2.2 _ h0 0 rh0) rh0 (by decide) rfl wk_X12_told tw_1557 rfl ⟨Nat.le_of_ble_eq_true rfl, Nat.le_of_ble_eq_true rfl⟩ ⟨rfl, rfl⟩ hl.1 rfl (Nat.le_of_ble_eq_true rfl) dX12_heed_59 ⟨Nat.le_of_ble_eq_true rfl, Nat.le_of_ble_eq_true rfl⟩ (fun v75 f76 H locs q77 hW => ?_)
          obtain ⟨⟨x79, rfl, p80⟩, g78⟩ := q77
          clear p80
          have z81 : RF rw_X12_heed f0 f76 h0 := rf_fm hTH z74 g78 rh0 rfl
          have hF := FM.tr hF g78 rfl
          exact e_I E hW rfl ⟨⟨_, rfl, trivial⟩, hF, z81⟩ dX12_heed_62
        · refine lv_aload_n hx hb dX12_heed_38 rfl (lv_at hl 0 rfl) ?_
          refine lv_bipush (v := (-3)) hx hb dX12_heed_39 (by decide) ?_
          refine t_callV (As := [.int (-3)]) (rest := []) E hW (c_X12_told l G cI cJ cZ cD cR cT kp L f49 hW.2.2.2 _ h0 (-3) rh0) rh0 (by decide) rfl wk_X12_told tw_1557 rfl ⟨Nat.le_of_ble_eq_true rfl, Nat.le_of_ble_eq_true rfl⟩ ⟨rfl, rfl⟩ hl.1 rfl (Nat.le_of_ble_eq_true rfl) dX12_heed_41 ⟨Nat.le_of_ble_eq_true rfl, Nat.le_of_ble_eq_true rfl⟩ (fun v82 f83 H locs q84 hW => ?_)
          obtain ⟨⟨x86, rfl, p87⟩, g85⟩ := q84
          clear p87
          have z88 : RF rw_X12_heed f0 f83 h0 := rf_fm hTH z54 g85 rh0 rfl
          have hF := FM.tr hF g85 rfl
          exact e_I E hW rfl ⟨⟨_, rfl, trivial⟩, hF, z88⟩ dX12_heed_44
      · clear p53
        refine lv_aload_n hx hb dX12_heed_26 rfl (lv_at hl 0 rfl) ?_
        refine lv_bipush (v := (-2)) hx hb dX12_heed_27 (by decide) ?_
        refine t_callV (As := [.int (-2)]) (rest := []) E hW (c_X12_told l G cI cJ cZ cD cR cT kp L f49 hW.2.2.2 _ h0 (-2) rh0) rh0 (by decide) rfl wk_X12_told tw_1557 rfl ⟨Nat.le_of_ble_eq_true rfl, Nat.le_of_ble_eq_true rfl⟩ ⟨rfl, rfl⟩ hl.1 rfl (Nat.le_of_ble_eq_true rfl) dX12_heed_29 ⟨Nat.le_of_ble_eq_true rfl, Nat.le_of_ble_eq_true rfl⟩ (fun v89 f90 H locs q91 hW => ?_)
        obtain ⟨⟨x93, rfl, p94⟩, g92⟩ := q91
        clear p94
        have z95 : RF rw_X12_heed f0 f90 h0 := rf_fm hTH z54 g92 rh0 rfl
        have hF := FM.tr hF g92 rfl
        exact e_I E hW rfl ⟨⟨_, rfl, trivial⟩, hF, z95⟩ dX12_heed_32
def rw_X12_goes : List (Nat × Nat) := [(25, 337)]
def ms_X12_goes : List (Nat × Nat) := [(12, 0), (12, 1), (822, 0)]
def po_X12_goes (kp : Nat → Nat) (L : List Nat) (f0 : Nat → va_E) (h0 : Nat) (u1 : Int32) (u2 : Int32) : Option Value → (Nat → va_E) → Prop := fun v f => (∃ r : Int32, v = some (.int r) ∧ (True)) ∧ FM kp L ms_X12_goes f0 f ∧ (RF rw_X12_goes f0 f h0)
set_option maxHeartbeats 4000000 in
set_option maxRecDepth 100000 in
theorem c_X12_goes (l : Launch) (G : va_G) (cI cJ cZ cD cR cT : ClassId) (kp : Nat → Nat) (L : List Nat) (f0 : Nat → va_E) (hTH : TH cI cJ cZ cD cR cT kp L f0) (sz : Nat) (h0 : Nat) (u1 : Int32) (u2 : Int32) (rh0 : RK kp L h0 12) : Met l yX12_goes (Cond.code yX12_goes cX12_goes 3 (some .int) :: wTab) ({ frames := 3, cells := 0, slots := 0, locals := 86 }) (va_Pc [.ref h0, .int u1, .int u2] (PreW G (tys6 cI cJ cZ cD cR cT) (va_pl L f0) sz)) (QT (po_X12_goes kp L f0 h0 u1 u2) G cI cJ cZ cD cR cT (va_A (va_pl L f0) sz) kp L) 0 0 (va_A (va_pl L f0) sz) := by
  refine metT (by decide) (Nat.le_of_ble_eq_true rfl) hTH ?_
  intro p e s m below meth c A ls E hW hl
  obtain ⟨hx, hb, -, hml, hown, hts, -, -, -⟩ := id E
  have hF : FM kp L ms_X12_goes f0 f0 := FM.rf
  have hl : lv_has ls 3 [(0, .ref h0), (1, .int u1), (2, .int u2)] := hl
  obtain ⟨pR, mR⟩ : ∃ x : Nat, oR (f0 h0) 2 = x := ⟨_, rfl⟩
  have rR : RK kp L pR 822 := by rw [← mR]; exact th_ref hTH rh0 (by decide) (by decide) rfl
  refine lv_aload_n hx hb dX12_goes_0 rfl (lv_at hl 0 rfl) ?_
  refine lv_iconst (v := 0) hx hb dX12_goes_1 (by decide) ?_
  refine fp_RX12_82 E hW rh0 dX12_goes_2 (fun f1 H locs e2 n3 g4 hW => ?_)
  have z5 : RF rw_X12_goes f0 f1 h0 := rf_fm hTH rf_rf g4 rh0 rfl
  have hF := FM.tr hF g4 rfl
  refine lv_iload_n hx hb dX12_goes_5 rfl (lv_at hl 2 rfl) ?_
  refine q_i2l hx hb dX12_goes_6 rfl (fun x6 h7 => ?_)
  have hb8 : -2147483648 ≤ x6.toInt ∧ x6.toInt ≤ 2147483647 := by have := i32_b u2; omega
  refine lv_lconst (v := 0) hx hb dX12_goes_7 (by decide) ?_
  refine lv_ldc2 (v := 4) hx hb hown (hts _ tw_1591) dX12_goes_8 ?_
  refine t_callS (As := [.long x6, .long 0, .long 4]) (rest := []) E hW (c_X12_in l G cI cJ cZ cD cR cT kp L f1 hW.2.2.2 _ x6 0 4) wk_X12_in tw_1554 rfl ⟨Nat.le_of_ble_eq_true rfl, Nat.le_of_ble_eq_true rfl⟩ ⟨rfl, rfl⟩ hl.1 rfl (Nat.le_of_ble_eq_true rfl) dX12_goes_11 ⟨Nat.le_of_ble_eq_true rfl, Nat.le_of_ble_eq_true rfl⟩ (fun v9 f10 H locs q11 hW => ?_)
  obtain ⟨⟨x13, rfl, p14⟩, g12⟩ := q11
  have p14 : (x13.toInt = 1 ∧ 0 ≤ x6.toInt ∧ x6.toInt ≤ 4) ∨ (x13.toInt = 0 ∧ (x6.toInt < 0 ∨ 4 < x6.toInt)) := p14
  have z15 : RF rw_X12_goes f0 f10 h0 := rf_fm hTH z5 g12 rh0 rfl
  have hF := FM.tr hF g12 rfl
  refine q_if_ne (tgt := 23) hx hb dX12_goes_14 (by decide) rfl (fun c16 => ?_) (fun c16 => ?_)
  · have q17 : 0 ≤ x6.toInt ∧ x6.toInt ≤ 4 := by omega
    clear p14
    refine lv_aload_n hx hb dX12_goes_23 rfl (lv_at hl 0 rfl) ?_
    refine lv_iload_n hx hb dX12_goes_24 rfl (lv_at hl 1 rfl) ?_
    refine t_callV (As := [.int u1]) (rest := []) E hW (c_X12_isPerson l G cI cJ cZ cD cR cT kp L f10 hW.2.2.2 _ h0 u1 rh0) rh0 (by decide) rfl wk_X12_isPerson tw_1583 rfl ⟨Nat.le_of_ble_eq_true rfl, Nat.le_of_ble_eq_true rfl⟩ ⟨rfl, rfl⟩ hl.1 rfl (Nat.le_of_ble_eq_true rfl) dX12_goes_25 ⟨Nat.le_of_ble_eq_true rfl, Nat.le_of_ble_eq_true rfl⟩ (fun v18 f19 H locs q20 hW => ?_)
    obtain ⟨⟨x22, rfl, p23⟩, g21⟩ := q20
    have z24 : RF rw_X12_goes f0 f19 h0 := rf_fm hTH z15 g21 rh0 rfl
    have hF := FM.tr hF g21 rfl
    refine q_if_ne (tgt := 38) hx hb dX12_goes_28 (by decide) rfl (fun c25 => ?_) (fun c25 => ?_)
    · have q26 : 0 ≤ u1.toInt ∧ u1.toInt ≤ 39 := by omega
      clear p23
      refine lv_aload_n hx hb dX12_goes_38 rfl (lv_at hl 0 rfl) ?_
      refine fg_RX12_8 E hW rh0 dX12_goes_39 (fun a27 m28 r29 => ?_)
      obtain rfl : pR = a27 := (((fm_R g21 rh0 rfl).trans ((fm_R g12 rh0 rfl).trans ((fm_R g4 rh0 rfl).trans mR)))).symm.trans m28
      refine lv_iload_n hx hb dX12_goes_42 rfl (lv_at hl 1 rfl) ?_
      refine t_callS (As := [.int u1]) (rest := [.ref pR]) E hW (c_X12_personAt l G cI cJ cZ cD cR cT kp L f19 hW.2.2.2 _ u1 (by omega)) wk_X12_personAt tw_1572 rfl ⟨Nat.le_of_ble_eq_true rfl, Nat.le_of_ble_eq_true rfl⟩ ⟨rfl, rfl⟩ hl.1 rfl (Nat.le_of_ble_eq_true rfl) dX12_goes_43 ⟨Nat.le_of_ble_eq_true rfl, Nat.le_of_ble_eq_true rfl⟩ (fun v30 f31 H locs q32 hW => ?_)
      obtain ⟨⟨x34, rfl, p35⟩, g33⟩ := q32
      have z36 : RF rw_X12_goes f0 f31 h0 := rf_fm hTH z24 g33 rh0 rfl
      have hF := FM.tr hF g33 rfl
      refine lv_iconst (v := 5) hx hb dX12_goes_46 (by decide) ?_
      refine q_iadd (Y := 5) hx hb dX12_goes_47 rfl rfl (by omega) (fun x37 h38 => ?_)
      refine gl_822 E hW rR ⟨by omega, by omega⟩ dX12_goes_48 (fun y39 m40 b41 => ?_)
      refine lv_iconst (v := 4) hx hb dX12_goes_49 (by decide) ?_
      refine q_icmp_ne (Y := 4) (tgt := 60) hx hb dX12_goes_50 (by decide) rfl rfl (fun c42 => ?_) (fun c42 => ?_)
      · refine lv_aload_n hx hb dX12_goes_60 rfl (lv_at hl 0 rfl) ?_
        refine fg_RX12_8 E hW rh0 dX12_goes_61 (fun a43 m44 r45 => ?_)
        obtain rfl : pR = a43 := (((fm_R g33 rh0 rfl).trans m28)).symm.trans m44
        refine lv_iload_n hx hb dX12_goes_64 rfl (lv_at hl 1 rfl) ?_
        refine t_callS (As := [.int u1]) (rest := [.ref pR]) E hW (c_X12_personAt l G cI cJ cZ cD cR cT kp L f31 hW.2.2.2 _ u1 (by omega)) wk_X12_personAt tw_1572 rfl ⟨Nat.le_of_ble_eq_true rfl, Nat.le_of_ble_eq_true rfl⟩ ⟨rfl, rfl⟩ hl.1 rfl (Nat.le_of_ble_eq_true rfl) dX12_goes_65 ⟨Nat.le_of_ble_eq_true rfl, Nat.le_of_ble_eq_true rfl⟩ (fun v46 f47 H locs q48 hW => ?_)
        obtain ⟨⟨x50, rfl, p51⟩, g49⟩ := q48
        have z52 : RF rw_X12_goes f0 f47 h0 := rf_fm hTH z36 g49 rh0 rfl
        have hF := FM.tr hF g49 rfl
        refine lv_iconst (v := 5) hx hb dX12_goes_68 (by decide) ?_
        refine q_iadd (Y := 5) hx hb dX12_goes_69 rfl rfl (by omega) (fun x53 h54 => ?_)
        refine lv_iload_n hx hb dX12_goes_70 rfl (lv_at hl 2 rfl) ?_
        refine gs_822 E hW rR ⟨by omega, by omega⟩ (fun hc => rr_up hc (by omega) (by omega) (by unfold rbI; omega)) dX12_goes_71 (fun f55 H locs e56 n57 g58 hW => ?_)
        have z59 : RF rw_X12_goes f0 f55 h0 := rf_st (lo := 25) (hi := 337) z52 mR e56 (by omega) rfl
        have hF := FM.tr hF g58 rfl
        refine lv_aload_n hx hb dX12_goes_72 rfl (lv_at hl 0 rfl) ?_
        refine lv_iconst (v := 0) hx hb dX12_goes_73 (by decide) ?_
        refine t_callV (As := [.int 0]) (rest := []) E hW (c_X12_told l G cI cJ cZ cD cR cT kp L f55 hW.2.2.2 _ h0 0 rh0) rh0 (by decide) rfl wk_X12_told tw_1557 rfl ⟨Nat.le_of_ble_eq_true rfl, Nat.le_of_ble_eq_true rfl⟩ ⟨rfl, rfl⟩ hl.1 rfl (Nat.le_of_ble_eq_true rfl) dX12_goes_74 ⟨Nat.le_of_ble_eq_true rfl, Nat.le_of_ble_eq_true rfl⟩ (fun v60 f61 H locs q62 hW => ?_)
        obtain ⟨⟨x64, rfl, p65⟩, g63⟩ := q62
        clear p65
        have z66 : RF rw_X12_goes f0 f61 h0 := rf_fm hTH z59 g63 rh0 rfl
        have hF := FM.tr hF g63 rfl
        exact e_I E hW rfl ⟨⟨_, rfl, trivial⟩, hF, z66⟩ dX12_goes_77
      · refine lv_aload_n hx hb dX12_goes_53 rfl (lv_at hl 0 rfl) ?_
        refine lv_bipush (v := (-3)) hx hb dX12_goes_54 (by decide) ?_
        refine t_callV (As := [.int (-3)]) (rest := []) E hW (c_X12_told l G cI cJ cZ cD cR cT kp L f31 hW.2.2.2 _ h0 (-3) rh0) rh0 (by decide) rfl wk_X12_told tw_1557 rfl ⟨Nat.le_of_ble_eq_true rfl, Nat.le_of_ble_eq_true rfl⟩ ⟨rfl, rfl⟩ hl.1 rfl (Nat.le_of_ble_eq_true rfl) dX12_goes_56 ⟨Nat.le_of_ble_eq_true rfl, Nat.le_of_ble_eq_true rfl⟩ (fun v67 f68 H locs q69 hW => ?_)
        obtain ⟨⟨x71, rfl, p72⟩, g70⟩ := q69
        clear p72
        have z73 : RF rw_X12_goes f0 f68 h0 := rf_fm hTH z36 g70 rh0 rfl
        have hF := FM.tr hF g70 rfl
        exact e_I E hW rfl ⟨⟨_, rfl, trivial⟩, hF, z73⟩ dX12_goes_59
    · clear p23
      refine lv_aload_n hx hb dX12_goes_31 rfl (lv_at hl 0 rfl) ?_
      refine lv_bipush (v := (-2)) hx hb dX12_goes_32 (by decide) ?_
      refine t_callV (As := [.int (-2)]) (rest := []) E hW (c_X12_told l G cI cJ cZ cD cR cT kp L f19 hW.2.2.2 _ h0 (-2) rh0) rh0 (by decide) rfl wk_X12_told tw_1557 rfl ⟨Nat.le_of_ble_eq_true rfl, Nat.le_of_ble_eq_true rfl⟩ ⟨rfl, rfl⟩ hl.1 rfl (Nat.le_of_ble_eq_true rfl) dX12_goes_34 ⟨Nat.le_of_ble_eq_true rfl, Nat.le_of_ble_eq_true rfl⟩ (fun v74 f75 H locs q76 hW => ?_)
      obtain ⟨⟨x78, rfl, p79⟩, g77⟩ := q76
      clear p79
      have z80 : RF rw_X12_goes f0 f75 h0 := rf_fm hTH z24 g77 rh0 rfl
      have hF := FM.tr hF g77 rfl
      exact e_I E hW rfl ⟨⟨_, rfl, trivial⟩, hF, z80⟩ dX12_goes_37
  · have q81 : (x6.toInt < 0 ∨ 4 < x6.toInt) := by omega
    clear p14
    refine lv_aload_n hx hb dX12_goes_17 rfl (lv_at hl 0 rfl) ?_
    refine lv_iconst (v := (-1)) hx hb dX12_goes_18 (by decide) ?_
    refine t_callV (As := [.int (-1)]) (rest := []) E hW (c_X12_told l G cI cJ cZ cD cR cT kp L f10 hW.2.2.2 _ h0 (-1) rh0) rh0 (by decide) rfl wk_X12_told tw_1557 rfl ⟨Nat.le_of_ble_eq_true rfl, Nat.le_of_ble_eq_true rfl⟩ ⟨rfl, rfl⟩ hl.1 rfl (Nat.le_of_ble_eq_true rfl) dX12_goes_19 ⟨Nat.le_of_ble_eq_true rfl, Nat.le_of_ble_eq_true rfl⟩ (fun v82 f83 H locs q84 hW => ?_)
    obtain ⟨⟨x86, rfl, p87⟩, g85⟩ := q84
    clear p87
    have z88 : RF rw_X12_goes f0 f83 h0 := rf_fm hTH z15 g85 rh0 rfl
    have hF := FM.tr hF g85 rfl
    exact e_I E hW rfl ⟨⟨_, rfl, trivial⟩, hF, z88⟩ dX12_goes_22
def rw_X12_gets : List (Nat × Nat) := [(21, 333)]
def ms_X12_gets : List (Nat × Nat) := [(822, 0)]
def po_X12_gets (kp : Nat → Nat) (L : List Nat) (f0 : Nat → va_E) (h0 : Nat) (u1 : Int32) (u2 : Int64) : Option Value → (Nat → va_E) → Prop := fun v f => v = none ∧ FM kp L ms_X12_gets f0 f ∧ (RF rw_X12_gets f0 f h0)
set_option maxHeartbeats 4000000 in
set_option maxRecDepth 100000 in
theorem c_X12_gets (l : Launch) (G : va_G) (cI cJ cZ cD cR cT : ClassId) (kp : Nat → Nat) (L : List Nat) (f0 : Nat → va_E) (hTH : TH cI cJ cZ cD cR cT kp L f0) (sz : Nat) (h0 : Nat) (u1 : Int32) (u2 : Int64) (rh0 : RK kp L h0 12) (pu1 : (0 : Int) ≤ u1.toInt ∧ u1.toInt ≤ 39) : Met l yX12_gets (Cond.code yX12_gets cX12_gets 5 none :: wTab) ({ frames := 2, cells := 0, slots := 0, locals := 60 }) (va_Pc [.ref h0, .int u1, .long u2] (PreW G (tys6 cI cJ cZ cD cR cT) (va_pl L f0) sz)) (QT (po_X12_gets kp L f0 h0 u1 u2) G cI cJ cZ cD cR cT (va_A (va_pl L f0) sz) kp L) 0 0 (va_A (va_pl L f0) sz) := by
  refine metT (by decide) (Nat.le_of_ble_eq_true rfl) hTH ?_
  intro p e s m below meth c A ls E hW hl
  obtain ⟨hx, hb, -, hml, hown, hts, -, -, -⟩ := id E
  have hF : FM kp L ms_X12_gets f0 f0 := FM.rf
  have hl : lv_has ls 5 [(0, .ref h0), (1, .int u1), (2, .long u2)] := hl
  obtain ⟨pR, mR⟩ : ∃ x : Nat, oR (f0 h0) 2 = x := ⟨_, rfl⟩
  have rR : RK kp L pR 822 := by rw [← mR]; exact th_ref hTH rh0 (by decide) (by decide) rfl
  refine lv_iload_n hx hb dX12_gets_0 rfl (lv_at hl 1 rfl) ?_
  refine t_callS (As := [.int u1]) (rest := []) E hW (c_X12_personAt l G cI cJ cZ cD cR cT kp L f0 hW.2.2.2 _ u1 (by omega)) wk_X12_personAt tw_1572 rfl ⟨Nat.le_of_ble_eq_true rfl, Nat.le_of_ble_eq_true rfl⟩ ⟨rfl, rfl⟩ hl.1 rfl (Nat.le_of_ble_eq_true rfl) dX12_gets_1 ⟨Nat.le_of_ble_eq_true rfl, Nat.le_of_ble_eq_true rfl⟩ (fun v1 f2 H locs q3 hW => ?_)
  obtain ⟨⟨x5, rfl, p6⟩, g4⟩ := q3
  have z7 : RF rw_X12_gets f0 f2 h0 := rf_fm hTH rf_rf g4 rh0 rfl
  have hF := FM.tr hF g4 rfl
  refine lv_iconst (v := 1) hx hb dX12_gets_4 (by decide) ?_
  refine q_iadd (Y := 1) hx hb dX12_gets_5 rfl rfl (by omega) (fun x8 h9 => ?_)
  refine lv_istore (lv' := [(4, .int x8), (0, .ref h0), (1, .int u1), (2, .long u2)]) hx hb dX12_gets_6 hl (by decide) rfl (fun ls hl => ?_)
  refine lv_aload_n hx hb dX12_gets_8 rfl (lv_at hl 1 rfl) ?_
  refine fg_RX12_8 E hW rh0 dX12_gets_9 (fun a10 m11 r12 => ?_)
  obtain rfl : pR = a10 := (((fm_R g4 rh0 rfl).trans mR)).symm.trans m11
  refine lv_iload hx hb dX12_gets_12 (lv_at hl 0 rfl) ?_
  refine gl_822 E hW rR ⟨by omega, by omega⟩ dX12_gets_14 (fun y13 m14 b15 => ?_)
  refine lv_ldc (v := 10000000) hx hb hown (hts _ tw_1600) dX12_gets_15 ?_
  have J56 : ∀ (f53 : Nat → va_E) (m54 : oR (f53 h0) 2 = pR) (z55 : RF rw_X12_gets f0 f53 h0) (H : Heap) (locs : List Loc) (ls : Array Slot), WS G cI cJ cZ cD cR cT A kp L f53 s H locs → FM kp L ms_X12_gets f0 f53 → lv_has ls 5 [(4, .int x8), (0, .ref h0), (1, .int u1), (2, .long u2)] → W p l e ({ frames := 2, cells := 0, slots := 0, locals := 60 }) s m ([.ref h0, .int u1, .long u2] : List Value).toArray below meth c H locs 0 0 (MQ below (QT (po_X12_gets kp L f0 h0 u1 u2) G cI cJ cZ cD cR cT A kp L) ([.ref h0, .int u1, .long u2] : List Value).toArray s 0 0 A) (F0 m 59 ls []) := by
    intro f53 m54 z55 H locs ls hW hF hl
    exact e_V E hW rfl ⟨rfl, hF, z55⟩ dX12_gets_59
  refine q_icmp_ge (Y := 10000000) (tgt := 59) hx hb dX12_gets_17 (by decide) rfl rfl (fun c57 => ?_) (fun c57 => ?_)
  · exact J56 f2 m11 z7 _ _ _ hW hF (lv_sub hl [0, 1, 2, 3] rfl)
  · refine lv_aload_n hx hb dX12_gets_20 rfl (lv_at hl 1 rfl) ?_
    refine fg_RX12_8 E hW rh0 dX12_gets_21 (fun a58 m59 r60 => ?_)
    obtain rfl : pR = a58 := (m11).symm.trans m59
    refine lv_iload hx hb dX12_gets_24 (lv_at hl 0 rfl) ?_
    refine lv_aload_n hx hb dX12_gets_26 rfl (lv_at hl 1 rfl) ?_
    refine fg_RX12_8 E hW rh0 dX12_gets_27 (fun a61 m62 r63 => ?_)
    obtain rfl : pR = a61 := (m59).symm.trans m62
    refine lv_iload hx hb dX12_gets_30 (lv_at hl 0 rfl) ?_
    refine gl_822 E hW rR ⟨by omega, by omega⟩ dX12_gets_32 (fun y64 m65 b66 => ?_)
    obtain rfl : y13 = y64 := (m14).symm.trans m65
    refine q_i2l hx hb dX12_gets_33 rfl (fun x67 h68 => ?_)
    have hb69 : -2147483648 ≤ x67.toInt ∧ x67.toInt ≤ 2147483647 := by have := i32_b y13; omega
    refine lv_lload_n hx hb dX12_gets_34 rfl (lv_at hl 3 rfl) ?_
    refine u_ladd hx hb dX12_gets_35 (fun x70 => ?_)
    refine lv_ldc2 (v := 10000000) hx hb hown (hts _ tw_1601) dX12_gets_36 ?_
    have J80 : ∀ (y79 : Int32) (H : Heap) (locs : List Loc) (ls : Array Slot), WS G cI cJ cZ cD cR cT A kp L f2 s H locs → FM kp L ms_X12_gets f0 f2 → lv_has ls 5 [(4, .int x8), (0, .ref h0), (1, .int u1), (2, .long u2)] → W p l e ({ frames := 2, cells := 0, slots := 0, locals := 60 }) s m ([.ref h0, .int u1, .long u2] : List Value).toArray below meth c H locs 0 0 (MQ below (QT (po_X12_gets kp L f0 h0 u1 u2) G cI cJ cZ cD cR cT A kp L) ([.ref h0, .int u1, .long u2] : List Value).toArray s 0 0 A) (F0 m 58 ls [.int y79, .int x8, .ref pR]) := by
      intro y79 H locs ls hW hF hl
      refine gs_822 E hW rR ⟨by omega, by omega⟩ (fun hc => rr_up hc (by omega) (by omega) (by unfold rbI; omega)) dX12_gets_58 (fun f81 H locs e82 n83 g84 hW => ?_)
      have z85 : RF rw_X12_gets f0 f81 h0 := rf_st (lo := 21) (hi := 333) z7 mR e82 (by omega) rfl
      have hF := FM.tr hF g84 rfl
      exact J56 f81 ((fm_R g84 rh0 rfl).trans m62) z85 _ _ _ hW hF (lv_sub hl [0, 1, 2, 3] rfl)
    refine q_lcmp_le (Y := 10000000) (tgt := 48) hx hb dX12_gets_39 dX12_gets_40 (by decide) rfl rfl (fun c86 => ?_) (fun c86 => ?_)
    · refine lv_aload_n hx hb dX12_gets_48 rfl (lv_at hl 1 rfl) ?_
      refine fg_RX12_8 E hW rh0 dX12_gets_49 (fun a87 m88 r89 => ?_)
      obtain rfl : pR = a87 := (m62).symm.trans m88
      refine lv_iload hx hb dX12_gets_52 (lv_at hl 0 rfl) ?_
      refine gl_822 E hW rR ⟨by omega, by omega⟩ dX12_gets_54 (fun y90 m91 b92 => ?_)
      obtain rfl : y13 = y90 := (m65).symm.trans m91
      refine lv_lload_n hx hb dX12_gets_55 rfl (lv_at hl 3 rfl) ?_
      refine u_l2i hx hb dX12_gets_56 (fun x93 => ?_)
      refine u_iadd hx hb dX12_gets_57 (fun x94 => ?_)
      exact J80 x94  _ _ _ hW hF (lv_sub hl [0, 1, 2, 3] rfl)
    · refine lv_ldc (v := 10000000) hx hb hown (hts _ tw_1600) dX12_gets_43 ?_
      refine lv_goto (tgt := 58) hx hb dX12_gets_45 (by decide) ?_
      exact J80 10000000  _ _ _ hW hF (lv_sub hl [0, 1, 2, 3] rfl)
def rw_X12_coin : List (Nat × Nat) := [(21, 333)]
def ms_X12_coin : List (Nat × Nat) := [(12, 0), (12, 1), (822, 0)]
def po_X12_coin (kp : Nat → Nat) (L : List Nat) (f0 : Nat → va_E) (h0 : Nat) (u1 : Int32) (u2 : Int32) : Option Value → (Nat → va_E) → Prop := fun v f => (∃ r : Int32, v = some (.int r) ∧ (True)) ∧ FM kp L ms_X12_coin f0 f ∧ (RF rw_X12_coin f0 f h0)
set_option maxHeartbeats 4000000 in
set_option maxRecDepth 100000 in
theorem c_X12_coin (l : Launch) (G : va_G) (cI cJ cZ cD cR cT : ClassId) (kp : Nat → Nat) (L : List Nat) (f0 : Nat → va_E) (hTH : TH cI cJ cZ cD cR cT kp L f0) (sz : Nat) (h0 : Nat) (u1 : Int32) (u2 : Int32) (rh0 : RK kp L h0 12) : Met l yX12_coin (Cond.code yX12_coin cX12_coin 3 (some .int) :: wTab) ({ frames := 3, cells := 0, slots := 0, locals := 86 }) (va_Pc [.ref h0, .int u1, .int u2] (PreW G (tys6 cI cJ cZ cD cR cT) (va_pl L f0) sz)) (QT (po_X12_coin kp L f0 h0 u1 u2) G cI cJ cZ cD cR cT (va_A (va_pl L f0) sz) kp L) 0 0 (va_A (va_pl L f0) sz) := by
  refine metT (by decide) (Nat.le_of_ble_eq_true rfl) hTH ?_
  intro p e s m below meth c A ls E hW hl
  obtain ⟨hx, hb, -, hml, hown, hts, -, -, -⟩ := id E
  have hF : FM kp L ms_X12_coin f0 f0 := FM.rf
  have hl : lv_has ls 3 [(0, .ref h0), (1, .int u1), (2, .int u2)] := hl
  obtain ⟨pR, mR⟩ : ∃ x : Nat, oR (f0 h0) 2 = x := ⟨_, rfl⟩
  have rR : RK kp L pR 822 := by rw [← mR]; exact th_ref hTH rh0 (by decide) (by decide) rfl
  refine lv_aload_n hx hb dX12_coin_0 rfl (lv_at hl 0 rfl) ?_
  refine lv_iconst (v := 0) hx hb dX12_coin_1 (by decide) ?_
  refine fp_RX12_82 E hW rh0 dX12_coin_2 (fun f1 H locs e2 n3 g4 hW => ?_)
  have z5 : RF rw_X12_coin f0 f1 h0 := rf_fm hTH rf_rf g4 rh0 rfl
  have hF := FM.tr hF g4 rfl
  refine lv_iload_n hx hb dX12_coin_5 rfl (lv_at hl 2 rfl) ?_
  refine q_i2l hx hb dX12_coin_6 rfl (fun x6 h7 => ?_)
  have hb8 : -2147483648 ≤ x6.toInt ∧ x6.toInt ≤ 2147483647 := by have := i32_b u2; omega
  refine lv_lconst (v := 0) hx hb dX12_coin_7 (by decide) ?_
  refine lv_ldc2 (v := 1000000) hx hb hown (hts _ tw_1570) dX12_coin_8 ?_
  refine t_callS (As := [.long x6, .long 0, .long 1000000]) (rest := []) E hW (c_X12_in l G cI cJ cZ cD cR cT kp L f1 hW.2.2.2 _ x6 0 1000000) wk_X12_in tw_1554 rfl ⟨Nat.le_of_ble_eq_true rfl, Nat.le_of_ble_eq_true rfl⟩ ⟨rfl, rfl⟩ hl.1 rfl (Nat.le_of_ble_eq_true rfl) dX12_coin_11 ⟨Nat.le_of_ble_eq_true rfl, Nat.le_of_ble_eq_true rfl⟩ (fun v9 f10 H locs q11 hW => ?_)
  obtain ⟨⟨x13, rfl, p14⟩, g12⟩ := q11
  have p14 : (x13.toInt = 1 ∧ 0 ≤ x6.toInt ∧ x6.toInt ≤ 1000000) ∨ (x13.toInt = 0 ∧ (x6.toInt < 0 ∨ 1000000 < x6.toInt)) := p14
  have z15 : RF rw_X12_coin f0 f10 h0 := rf_fm hTH z5 g12 rh0 rfl
  have hF := FM.tr hF g12 rfl
  refine q_if_ne (tgt := 23) hx hb dX12_coin_14 (by decide) rfl (fun c16 => ?_) (fun c16 => ?_)
  · have q17 : 0 ≤ x6.toInt ∧ x6.toInt ≤ 1000000 := by omega
    clear p14
    refine lv_aload_n hx hb dX12_coin_23 rfl (lv_at hl 0 rfl) ?_
    refine lv_iload_n hx hb dX12_coin_24 rfl (lv_at hl 1 rfl) ?_
    refine t_callV (As := [.int u1]) (rest := []) E hW (c_X12_isPerson l G cI cJ cZ cD cR cT kp L f10 hW.2.2.2 _ h0 u1 rh0) rh0 (by decide) rfl wk_X12_isPerson tw_1583 rfl ⟨Nat.le_of_ble_eq_true rfl, Nat.le_of_ble_eq_true rfl⟩ ⟨rfl, rfl⟩ hl.1 rfl (Nat.le_of_ble_eq_true rfl) dX12_coin_25 ⟨Nat.le_of_ble_eq_true rfl, Nat.le_of_ble_eq_true rfl⟩ (fun v18 f19 H locs q20 hW => ?_)
    obtain ⟨⟨x22, rfl, p23⟩, g21⟩ := q20
    have z24 : RF rw_X12_coin f0 f19 h0 := rf_fm hTH z15 g21 rh0 rfl
    have hF := FM.tr hF g21 rfl
    refine q_if_ne (tgt := 38) hx hb dX12_coin_28 (by decide) rfl (fun c25 => ?_) (fun c25 => ?_)
    · have q26 : 0 ≤ u1.toInt ∧ u1.toInt ≤ 39 := by omega
      clear p23
      refine lv_aload_n hx hb dX12_coin_38 rfl (lv_at hl 0 rfl) ?_
      refine lv_iload_n hx hb dX12_coin_39 rfl (lv_at hl 1 rfl) ?_
      refine lv_iload_n hx hb dX12_coin_40 rfl (lv_at hl 2 rfl) ?_
      refine q_i2l hx hb dX12_coin_41 rfl (fun x27 h28 => ?_)
      refine t_callV (As := [.int u1, .long x27]) (rest := []) E hW (c_X12_gets l G cI cJ cZ cD cR cT kp L f19 hW.2.2.2 _ h0 u1 x27 rh0 (by omega)) rh0 (by decide) rfl wk_X12_gets tw_1596 rfl ⟨Nat.le_of_ble_eq_true rfl, Nat.le_of_ble_eq_true rfl⟩ ⟨rfl, rfl⟩ hl.1 rfl (Nat.le_of_ble_eq_true rfl) dX12_coin_42 ⟨Nat.le_of_ble_eq_true rfl, Nat.le_of_ble_eq_true rfl⟩ (fun v29 f30 H locs q31 hW => ?_)
      obtain ⟨rfl, g32, h33⟩ := q31
      have z34 : RF rw_X12_coin f0 f30 h0 := rf_call z24 h33 mR ((fm_R g21 rh0 rfl).trans ((fm_R g12 rh0 rfl).trans ((fm_R g4 rh0 rfl).trans mR))) rfl
      have hF := FM.tr hF g32 rfl
      refine lv_aload_n hx hb dX12_coin_45 rfl (lv_at hl 0 rfl) ?_
      refine lv_aload_n hx hb dX12_coin_46 rfl (lv_at hl 0 rfl) ?_
      refine fg_RX12_8 E hW rh0 dX12_coin_47 (fun a35 m36 r37 => ?_)
      obtain rfl : pR = a35 := (((fm_R g32 rh0 rfl).trans ((fm_R g21 rh0 rfl).trans ((fm_R g12 rh0 rfl).trans ((fm_R g4 rh0 rfl).trans mR))))).symm.trans m36
      refine lv_iload_n hx hb dX12_coin_50 rfl (lv_at hl 1 rfl) ?_
      refine t_callS (As := [.int u1]) (rest := [.ref pR, .ref h0]) E hW (c_X12_personAt l G cI cJ cZ cD cR cT kp L f30 hW.2.2.2 _ u1 (by omega)) wk_X12_personAt tw_1572 rfl ⟨Nat.le_of_ble_eq_true rfl, Nat.le_of_ble_eq_true rfl⟩ ⟨rfl, rfl⟩ hl.1 rfl (Nat.le_of_ble_eq_true rfl) dX12_coin_51 ⟨Nat.le_of_ble_eq_true rfl, Nat.le_of_ble_eq_true rfl⟩ (fun v38 f39 H locs q40 hW => ?_)
      obtain ⟨⟨x42, rfl, p43⟩, g41⟩ := q40
      have z44 : RF rw_X12_coin f0 f39 h0 := rf_fm hTH z34 g41 rh0 rfl
      have hF := FM.tr hF g41 rfl
      refine lv_iconst (v := 1) hx hb dX12_coin_54 (by decide) ?_
      refine q_iadd (Y := 1) hx hb dX12_coin_55 rfl rfl (by omega) (fun x45 h46 => ?_)
      refine gl_822 E hW rR ⟨by omega, by omega⟩ dX12_coin_56 (fun y47 m48 b49 => ?_)
      refine t_callV (As := [.int y47]) (rest := []) E hW (c_X12_told l G cI cJ cZ cD cR cT kp L f39 hW.2.2.2 _ h0 y47 rh0) rh0 (by decide) rfl wk_X12_told tw_1557 rfl ⟨Nat.le_of_ble_eq_true rfl, Nat.le_of_ble_eq_true rfl⟩ ⟨rfl, rfl⟩ hl.1 rfl (Nat.le_of_ble_eq_true rfl) dX12_coin_57 ⟨Nat.le_of_ble_eq_true rfl, Nat.le_of_ble_eq_true rfl⟩ (fun v50 f51 H locs q52 hW => ?_)
      obtain ⟨⟨x54, rfl, p55⟩, g53⟩ := q52
      clear p55
      have z56 : RF rw_X12_coin f0 f51 h0 := rf_fm hTH z44 g53 rh0 rfl
      have hF := FM.tr hF g53 rfl
      exact e_I E hW rfl ⟨⟨_, rfl, trivial⟩, hF, z56⟩ dX12_coin_60
    · clear p23
      refine lv_aload_n hx hb dX12_coin_31 rfl (lv_at hl 0 rfl) ?_
      refine lv_bipush (v := (-2)) hx hb dX12_coin_32 (by decide) ?_
      refine t_callV (As := [.int (-2)]) (rest := []) E hW (c_X12_told l G cI cJ cZ cD cR cT kp L f19 hW.2.2.2 _ h0 (-2) rh0) rh0 (by decide) rfl wk_X12_told tw_1557 rfl ⟨Nat.le_of_ble_eq_true rfl, Nat.le_of_ble_eq_true rfl⟩ ⟨rfl, rfl⟩ hl.1 rfl (Nat.le_of_ble_eq_true rfl) dX12_coin_34 ⟨Nat.le_of_ble_eq_true rfl, Nat.le_of_ble_eq_true rfl⟩ (fun v57 f58 H locs q59 hW => ?_)
      obtain ⟨⟨x61, rfl, p62⟩, g60⟩ := q59
      clear p62
      have z63 : RF rw_X12_coin f0 f58 h0 := rf_fm hTH z24 g60 rh0 rfl
      have hF := FM.tr hF g60 rfl
      exact e_I E hW rfl ⟨⟨_, rfl, trivial⟩, hF, z63⟩ dX12_coin_37
  · have q64 : (x6.toInt < 0 ∨ 1000000 < x6.toInt) := by omega
    clear p14
    refine lv_aload_n hx hb dX12_coin_17 rfl (lv_at hl 0 rfl) ?_
    refine lv_iconst (v := (-1)) hx hb dX12_coin_18 (by decide) ?_
    refine t_callV (As := [.int (-1)]) (rest := []) E hW (c_X12_told l G cI cJ cZ cD cR cT kp L f10 hW.2.2.2 _ h0 (-1) rh0) rh0 (by decide) rfl wk_X12_told tw_1557 rfl ⟨Nat.le_of_ble_eq_true rfl, Nat.le_of_ble_eq_true rfl⟩ ⟨rfl, rfl⟩ hl.1 rfl (Nat.le_of_ble_eq_true rfl) dX12_coin_19 ⟨Nat.le_of_ble_eq_true rfl, Nat.le_of_ble_eq_true rfl⟩ (fun v65 f66 H locs q67 hW => ?_)
    obtain ⟨⟨x69, rfl, p70⟩, g68⟩ := q67
    clear p70
    have z71 : RF rw_X12_coin f0 f66 h0 := rf_fm hTH z15 g68 rh0 rfl
    have hF := FM.tr hF g68 rfl
    exact e_I E hW rfl ⟨⟨_, rfl, trivial⟩, hF, z71⟩ dX12_coin_22
def rw_X12_give : List (Nat × Nat) := [(9, 9)]
def ms_X12_give : List (Nat × Nat) := [(12, 0), (12, 1), (822, 0)]
def po_X12_give (kp : Nat → Nat) (L : List Nat) (f0 : Nat → va_E) (h0 : Nat) (u1 : Int32) : Option Value → (Nat → va_E) → Prop := fun v f => (∃ r : Int32, v = some (.int r) ∧ (True)) ∧ FM kp L ms_X12_give f0 f ∧ (RF rw_X12_give f0 f h0)
set_option maxHeartbeats 4000000 in
set_option maxRecDepth 100000 in
theorem c_X12_give (l : Launch) (G : va_G) (cI cJ cZ cD cR cT : ClassId) (kp : Nat → Nat) (L : List Nat) (f0 : Nat → va_E) (hTH : TH cI cJ cZ cD cR cT kp L f0) (sz : Nat) (h0 : Nat) (u1 : Int32) (rh0 : RK kp L h0 12) : Met l yX12_give (Cond.code yX12_give cX12_give 2 (some .int) :: wTab) ({ frames := 2, cells := 0, slots := 0, locals := 65 }) (va_Pc [.ref h0, .int u1] (PreW G (tys6 cI cJ cZ cD cR cT) (va_pl L f0) sz)) (QT (po_X12_give kp L f0 h0 u1) G cI cJ cZ cD cR cT (va_A (va_pl L f0) sz) kp L) 0 0 (va_A (va_pl L f0) sz) := by
  refine metT (by decide) (Nat.le_of_ble_eq_true rfl) hTH ?_
  intro p e s m below meth c A ls E hW hl
  obtain ⟨hx, hb, -, hml, hown, hts, -, -, -⟩ := id E
  have hF : FM kp L ms_X12_give f0 f0 := FM.rf
  have hl : lv_has ls 2 [(0, .ref h0), (1, .int u1)] := hl
  obtain ⟨pR, mR⟩ : ∃ x : Nat, oR (f0 h0) 2 = x := ⟨_, rfl⟩
  have rR : RK kp L pR 822 := by rw [← mR]; exact th_ref hTH rh0 (by decide) (by decide) rfl
  refine lv_aload_n hx hb dX12_give_0 rfl (lv_at hl 0 rfl) ?_
  refine lv_iconst (v := 0) hx hb dX12_give_1 (by decide) ?_
  refine fp_RX12_82 E hW rh0 dX12_give_2 (fun f1 H locs e2 n3 g4 hW => ?_)
  have z5 : RF rw_X12_give f0 f1 h0 := rf_fm hTH rf_rf g4 rh0 rfl
  have hF := FM.tr hF g4 rfl
  refine lv_iload_n hx hb dX12_give_5 rfl (lv_at hl 1 rfl) ?_
  refine q_i2l hx hb dX12_give_6 rfl (fun x6 h7 => ?_)
  have hb8 : -2147483648 ≤ x6.toInt ∧ x6.toInt ≤ 2147483647 := by have := i32_b u1; omega
  refine lv_lconst (v := 0) hx hb dX12_give_7 (by decide) ?_
  refine lv_ldc2 (v := 10000000) hx hb hown (hts _ tw_1601) dX12_give_8 ?_
  refine t_callS (As := [.long x6, .long 0, .long 10000000]) (rest := []) E hW (c_X12_in l G cI cJ cZ cD cR cT kp L f1 hW.2.2.2 _ x6 0 10000000) wk_X12_in tw_1554 rfl ⟨Nat.le_of_ble_eq_true rfl, Nat.le_of_ble_eq_true rfl⟩ ⟨rfl, rfl⟩ hl.1 rfl (Nat.le_of_ble_eq_true rfl) dX12_give_11 ⟨Nat.le_of_ble_eq_true rfl, Nat.le_of_ble_eq_true rfl⟩ (fun v9 f10 H locs q11 hW => ?_)
  obtain ⟨⟨x13, rfl, p14⟩, g12⟩ := q11
  have p14 : (x13.toInt = 1 ∧ 0 ≤ x6.toInt ∧ x6.toInt ≤ 10000000) ∨ (x13.toInt = 0 ∧ (x6.toInt < 0 ∨ 10000000 < x6.toInt)) := p14
  have z15 : RF rw_X12_give f0 f10 h0 := rf_fm hTH z5 g12 rh0 rfl
  have hF := FM.tr hF g12 rfl
  refine q_if_ne (tgt := 23) hx hb dX12_give_14 (by decide) rfl (fun c16 => ?_) (fun c16 => ?_)
  · have q17 : 0 ≤ x6.toInt ∧ x6.toInt ≤ 10000000 := by omega
    clear p14
    refine lv_aload_n hx hb dX12_give_23 rfl (lv_at hl 0 rfl) ?_
    refine fg_RX12_8 E hW rh0 dX12_give_24 (fun a18 m19 r20 => ?_)
    obtain rfl : pR = a18 := (((fm_R g12 rh0 rfl).trans ((fm_R g4 rh0 rfl).trans mR))).symm.trans m19
    refine lv_bipush (v := 9) hx hb dX12_give_27 (by decide) ?_
    refine lv_aload_n hx hb dX12_give_29 rfl (lv_at hl 0 rfl) ?_
    refine fg_RX12_8 E hW rh0 dX12_give_30 (fun a21 m22 r23 => ?_)
    obtain rfl : pR = a21 := (m19).symm.trans m22
    refine lv_bipush (v := 9) hx hb dX12_give_33 (by decide) ?_
    refine gl_822 E hW rR (by decide) dX12_give_35 (fun y24 m25 b26 => ?_)
    refine lv_iload_n hx hb dX12_give_36 rfl (lv_at hl 1 rfl) ?_
    refine u_iadd hx hb dX12_give_37 (fun x27 => ?_)
    refine lv_ldc (v := 100000000) hx hb hown (hts _ tw_1606) dX12_give_38 ?_
    have J36 : ∀ (y35 : Int32) (H : Heap) (locs : List Loc) (ls : Array Slot), WS G cI cJ cZ cD cR cT A kp L f10 s H locs → FM kp L ms_X12_give f0 f10 → lv_has ls 2 [(0, .ref h0), (1, .int u1)] → W p l e ({ frames := 2, cells := 0, slots := 0, locals := 65 }) s m ([.ref h0, .int u1] : List Value).toArray below meth c H locs 0 0 (MQ below (QT (po_X12_give kp L f0 h0 u1) G cI cJ cZ cD cR cT A kp L) ([.ref h0, .int u1] : List Value).toArray s 0 0 A) (F0 m 57 ls [.int y35, .int 9, .ref pR]) := by
      intro y35 H locs ls hW hF hl
      clear c16
      have hk37 : (9 : Int32).toInt = 9 := rfl
      refine gs_822 E hW rR (by decide) (fun hc => rr_up hc (by omega) (by omega) (by unfold rbI; omega)) dX12_give_57 (fun f38 H locs e39 n40 g41 hW => ?_)
      have z42 : RF rw_X12_give f0 f38 h0 := rf_st (lo := 9) (hi := 9) z15 mR e39 (by decide) rfl
      have hF := FM.tr hF g41 rfl
      refine lv_aload_n hx hb dX12_give_58 rfl (lv_at hl 0 rfl) ?_
      refine lv_aload_n hx hb dX12_give_59 rfl (lv_at hl 0 rfl) ?_
      refine fg_RX12_8 E hW rh0 dX12_give_60 (fun a43 m44 r45 => ?_)
      obtain rfl : pR = a43 := (((fm_R g41 rh0 rfl).trans m22)).symm.trans m44
      refine lv_bipush (v := 9) hx hb dX12_give_63 (by decide) ?_
      refine gl_822 E hW rR (by decide) dX12_give_65 (fun y46 m47 b48 => ?_)
      obtain rfl : y35 = y46 := ((show aI (f38 pR) (9 : Int32).toNatClampNeg = y35 from by rw [e39]; exact up_s)).symm.trans m47
      refine t_callV (As := [.int y35]) (rest := []) E hW (c_X12_told l G cI cJ cZ cD cR cT kp L f38 hW.2.2.2 _ h0 y35 rh0) rh0 (by decide) rfl wk_X12_told tw_1557 rfl ⟨Nat.le_of_ble_eq_true rfl, Nat.le_of_ble_eq_true rfl⟩ ⟨rfl, rfl⟩ hl.1 rfl (Nat.le_of_ble_eq_true rfl) dX12_give_66 ⟨Nat.le_of_ble_eq_true rfl, Nat.le_of_ble_eq_true rfl⟩ (fun v49 f50 H locs q51 hW => ?_)
      obtain ⟨⟨x53, rfl, p54⟩, g52⟩ := q51
      clear p54
      have z55 : RF rw_X12_give f0 f50 h0 := rf_fm hTH z42 g52 rh0 rfl
      have hF := FM.tr hF g52 rfl
      exact e_I E hW rfl ⟨⟨_, rfl, trivial⟩, hF, z55⟩ dX12_give_69
    refine q_icmp_le (Y := 100000000) (tgt := 48) hx hb dX12_give_40 (by decide) rfl rfl (fun c56 => ?_) (fun c56 => ?_)
    · refine lv_aload_n hx hb dX12_give_48 rfl (lv_at hl 0 rfl) ?_
      refine fg_RX12_8 E hW rh0 dX12_give_49 (fun a57 m58 r59 => ?_)
      obtain rfl : pR = a57 := (m22).symm.trans m58
      refine lv_bipush (v := 9) hx hb dX12_give_52 (by decide) ?_
      refine gl_822 E hW rR (by decide) dX12_give_54 (fun y60 m61 b62 => ?_)
      obtain rfl : y24 = y60 := (m25).symm.trans m61
      refine lv_iload_n hx hb dX12_give_55 rfl (lv_at hl 1 rfl) ?_
      refine u_iadd hx hb dX12_give_56 (fun x63 => ?_)
      exact J36 x63  _ _ _ hW hF (lv_sub hl [0, 1] rfl)
    · refine lv_ldc (v := 100000000) hx hb hown (hts _ tw_1606) dX12_give_43 ?_
      refine lv_goto (tgt := 57) hx hb dX12_give_45 (by decide) ?_
      exact J36 100000000  _ _ _ hW hF (lv_sub hl [0, 1] rfl)
  · have q64 : (x6.toInt < 0 ∨ 10000000 < x6.toInt) := by omega
    clear p14
    refine lv_aload_n hx hb dX12_give_17 rfl (lv_at hl 0 rfl) ?_
    refine lv_iconst (v := (-1)) hx hb dX12_give_18 (by decide) ?_
    refine t_callV (As := [.int (-1)]) (rest := []) E hW (c_X12_told l G cI cJ cZ cD cR cT kp L f10 hW.2.2.2 _ h0 (-1) rh0) rh0 (by decide) rfl wk_X12_told tw_1557 rfl ⟨Nat.le_of_ble_eq_true rfl, Nat.le_of_ble_eq_true rfl⟩ ⟨rfl, rfl⟩ hl.1 rfl (Nat.le_of_ble_eq_true rfl) dX12_give_19 ⟨Nat.le_of_ble_eq_true rfl, Nat.le_of_ble_eq_true rfl⟩ (fun v65 f66 H locs q67 hW => ?_)
    obtain ⟨⟨x69, rfl, p70⟩, g68⟩ := q67
    clear p70
    have z71 : RF rw_X12_give f0 f66 h0 := rf_fm hTH z15 g68 rh0 rfl
    have hF := FM.tr hF g68 rfl
    exact e_I E hW rfl ⟨⟨_, rfl, trivial⟩, hF, z71⟩ dX12_give_22
def rw_X12_estate : List (Nat × Nat) := [(1, 1), (340, 363)]
def ms_X12_estate : List (Nat × Nat) := [(12, 0), (12, 1), (822, 0)]
def po_X12_estate (kp : Nat → Nat) (L : List Nat) (f0 : Nat → va_E) (h0 : Nat) (u1 : Int32) (u2 : Int32) : Option Value → (Nat → va_E) → Prop := fun v f => (∃ r : Int32, v = some (.int r) ∧ (True)) ∧ FM kp L ms_X12_estate f0 f ∧ (RF rw_X12_estate f0 f h0)
set_option maxHeartbeats 4000000 in
set_option maxRecDepth 100000 in
theorem c_X12_estate (l : Launch) (G : va_G) (cI cJ cZ cD cR cT : ClassId) (kp : Nat → Nat) (L : List Nat) (f0 : Nat → va_E) (hTH : TH cI cJ cZ cD cR cT kp L f0) (sz : Nat) (h0 : Nat) (u1 : Int32) (u2 : Int32) (rh0 : RK kp L h0 12) : Met l yX12_estate (Cond.code yX12_estate cX12_estate 4 (some .int) :: wTab) ({ frames := 2, cells := 0, slots := 0, locals := 65 }) (va_Pc [.ref h0, .int u1, .int u2] (PreW G (tys6 cI cJ cZ cD cR cT) (va_pl L f0) sz)) (QT (po_X12_estate kp L f0 h0 u1 u2) G cI cJ cZ cD cR cT (va_A (va_pl L f0) sz) kp L) 0 0 (va_A (va_pl L f0) sz) := by
  refine metT (by decide) (Nat.le_of_ble_eq_true rfl) hTH ?_
  intro p e s m below meth c A ls E hW hl
  obtain ⟨hx, hb, -, hml, hown, hts, -, -, -⟩ := id E
  have hF : FM kp L ms_X12_estate f0 f0 := FM.rf
  have hl : lv_has ls 4 [(0, .ref h0), (1, .int u1), (2, .int u2)] := hl
  obtain ⟨pR, mR⟩ : ∃ x : Nat, oR (f0 h0) 2 = x := ⟨_, rfl⟩
  have rR : RK kp L pR 822 := by rw [← mR]; exact th_ref hTH rh0 (by decide) (by decide) rfl
  refine lv_aload_n hx hb dX12_estate_0 rfl (lv_at hl 0 rfl) ?_
  refine lv_iconst (v := 0) hx hb dX12_estate_1 (by decide) ?_
  refine fp_RX12_82 E hW rh0 dX12_estate_2 (fun f1 H locs e2 n3 g4 hW => ?_)
  have z5 : RF rw_X12_estate f0 f1 h0 := rf_fm hTH rf_rf g4 rh0 rfl
  have hF := FM.tr hF g4 rfl
  refine lv_iload_n hx hb dX12_estate_5 rfl (lv_at hl 1 rfl) ?_
  refine q_i2l hx hb dX12_estate_6 rfl (fun x6 h7 => ?_)
  have hb8 : -2147483648 ≤ x6.toInt ∧ x6.toInt ≤ 2147483647 := by have := i32_b u1; omega
  refine lv_lconst (v := 0) hx hb dX12_estate_7 (by decide) ?_
  refine lv_ldc2 (v := 10000000) hx hb hown (hts _ tw_1601) dX12_estate_8 ?_
  refine t_callS (As := [.long x6, .long 0, .long 10000000]) (rest := []) E hW (c_X12_in l G cI cJ cZ cD cR cT kp L f1 hW.2.2.2 _ x6 0 10000000) wk_X12_in tw_1554 rfl ⟨Nat.le_of_ble_eq_true rfl, Nat.le_of_ble_eq_true rfl⟩ ⟨rfl, rfl⟩ hl.1 rfl (Nat.le_of_ble_eq_true rfl) dX12_estate_11 ⟨Nat.le_of_ble_eq_true rfl, Nat.le_of_ble_eq_true rfl⟩ (fun v9 f10 H locs q11 hW => ?_)
  obtain ⟨⟨x13, rfl, p14⟩, g12⟩ := q11
  have p14 : (x13.toInt = 1 ∧ 0 ≤ x6.toInt ∧ x6.toInt ≤ 10000000) ∨ (x13.toInt = 0 ∧ (x6.toInt < 0 ∨ 10000000 < x6.toInt)) := p14
  have z15 : RF rw_X12_estate f0 f10 h0 := rf_fm hTH z5 g12 rh0 rfl
  have hF := FM.tr hF g12 rfl
  refine q_if_eq (tgt := 29) hx hb dX12_estate_14 (by decide) rfl (fun c16 => ?_) (fun c16 => ?_)
  · have q17 : (x6.toInt < 0 ∨ 10000000 < x6.toInt) := by omega
    clear p14
    refine lv_aload_n hx hb dX12_estate_29 rfl (lv_at hl 0 rfl) ?_
    refine lv_iconst (v := (-1)) hx hb dX12_estate_30 (by decide) ?_
    refine t_callV (As := [.int (-1)]) (rest := []) E hW (c_X12_told l G cI cJ cZ cD cR cT kp L f10 hW.2.2.2 _ h0 (-1) rh0) rh0 (by decide) rfl wk_X12_told tw_1557 rfl ⟨Nat.le_of_ble_eq_true rfl, Nat.le_of_ble_eq_true rfl⟩ ⟨rfl, rfl⟩ hl.1 rfl (Nat.le_of_ble_eq_true rfl) dX12_estate_31 ⟨Nat.le_of_ble_eq_true rfl, Nat.le_of_ble_eq_true rfl⟩ (fun v18 f19 H locs q20 hW => ?_)
    obtain ⟨⟨x22, rfl, p23⟩, g21⟩ := q20
    clear p23
    have z24 : RF rw_X12_estate f0 f19 h0 := rf_fm hTH z15 g21 rh0 rfl
    have hF := FM.tr hF g21 rfl
    exact e_I E hW rfl ⟨⟨_, rfl, trivial⟩, hF, z24⟩ dX12_estate_34
  · have q25 : 0 ≤ x6.toInt ∧ x6.toInt ≤ 10000000 := by omega
    clear p14
    refine lv_iload_n hx hb dX12_estate_17 rfl (lv_at hl 2 rfl) ?_
    refine q_i2l hx hb dX12_estate_18 rfl (fun x26 h27 => ?_)
    have hb28 : -2147483648 ≤ x26.toInt ∧ x26.toInt ≤ 2147483647 := by have := i32_b u2; omega
    refine lv_lconst (v := 0) hx hb dX12_estate_19 (by decide) ?_
    refine lv_ldc2 (v := 1000000) hx hb hown (hts _ tw_1570) dX12_estate_20 ?_
    refine t_callS (As := [.long x26, .long 0, .long 1000000]) (rest := []) E hW (c_X12_in l G cI cJ cZ cD cR cT kp L f10 hW.2.2.2 _ x26 0 1000000) wk_X12_in tw_1554 rfl ⟨Nat.le_of_ble_eq_true rfl, Nat.le_of_ble_eq_true rfl⟩ ⟨rfl, rfl⟩ hl.1 rfl (Nat.le_of_ble_eq_true rfl) dX12_estate_23 ⟨Nat.le_of_ble_eq_true rfl, Nat.le_of_ble_eq_true rfl⟩ (fun v29 f30 H locs q31 hW => ?_)
    obtain ⟨⟨x33, rfl, p34⟩, g32⟩ := q31
    have p34 : (x33.toInt = 1 ∧ 0 ≤ x26.toInt ∧ x26.toInt ≤ 1000000) ∨ (x33.toInt = 0 ∧ (x26.toInt < 0 ∨ 1000000 < x26.toInt)) := p34
    have z35 : RF rw_X12_estate f0 f30 h0 := rf_fm hTH z15 g32 rh0 rfl
    have hF := FM.tr hF g32 rfl
    refine q_if_ne (tgt := 35) hx hb dX12_estate_26 (by decide) rfl (fun c36 => ?_) (fun c36 => ?_)
    · have q37 : 0 ≤ x26.toInt ∧ x26.toInt ≤ 1000000 := by omega
      clear p34
      refine lv_aload_n hx hb dX12_estate_35 rfl (lv_at hl 0 rfl) ?_
      refine fg_RX12_8 E hW rh0 dX12_estate_36 (fun a38 m39 r40 => ?_)
      obtain rfl : pR = a38 := (((fm_R g32 rh0 rfl).trans ((fm_R g12 rh0 rfl).trans ((fm_R g4 rh0 rfl).trans mR)))).symm.trans m39
      refine lv_iconst (v := 1) hx hb dX12_estate_39 (by decide) ?_
      refine gl_822 E hW rR (by decide) dX12_estate_40 (fun y41 m42 b43 => ?_)
      have b44 := rr_1 (show RowInv _ from b43) m42 (by decide)
      refine lv_bipush (v := 8) hx hb dX12_estate_41 (by decide) ?_
      refine q_icmp_ne (Y := 8) (tgt := 53) hx hb dX12_estate_43 (by decide) rfl rfl (fun c45 => ?_) (fun c45 => ?_)
      · refine lv_aload_n hx hb dX12_estate_53 rfl (lv_at hl 0 rfl) ?_
        refine fg_RX12_8 E hW rh0 dX12_estate_54 (fun a46 m47 r48 => ?_)
        obtain rfl : pR = a46 := (m39).symm.trans m47
        refine lv_iconst (v := 1) hx hb dX12_estate_57 (by decide) ?_
        refine gl_822 E hW rR (by decide) dX12_estate_58 (fun y49 m50 b51 => ?_)
        obtain rfl : y41 = y49 := (m42).symm.trans m50
        refine t_callS (As := [.int y41]) (rest := []) E hW (c_X12_estateAt l G cI cJ cZ cD cR cT kp L f30 hW.2.2.2 _ y41 (by omega)) wk_X12_estateAt tw_1611 rfl ⟨Nat.le_of_ble_eq_true rfl, Nat.le_of_ble_eq_true rfl⟩ ⟨rfl, rfl⟩ hl.1 rfl (Nat.le_of_ble_eq_true rfl) dX12_estate_59 ⟨Nat.le_of_ble_eq_true rfl, Nat.le_of_ble_eq_true rfl⟩ (fun v52 f53 H locs q54 hW => ?_)
        obtain ⟨⟨x56, rfl, p57⟩, g55⟩ := q54
        have z58 : RF rw_X12_estate f0 f53 h0 := rf_fm hTH z35 g55 rh0 rfl
        have hF := FM.tr hF g55 rfl
        refine lv_istore_n (lv' := [(3, .int x56), (0, .ref h0), (1, .int u1), (2, .int u2)]) hx hb dX12_estate_62 rfl hl (by decide) rfl (fun ls hl => ?_)
        refine lv_aload_n hx hb dX12_estate_63 rfl (lv_at hl 1 rfl) ?_
        refine fg_RX12_8 E hW rh0 dX12_estate_64 (fun a59 m60 r61 => ?_)
        obtain rfl : pR = a59 := (((fm_R g55 rh0 rfl).trans m47)).symm.trans m60
        refine lv_iload_n hx hb dX12_estate_67 rfl (lv_at hl 0 rfl) ?_
        refine lv_iload_n hx hb dX12_estate_68 rfl (lv_at hl 2 rfl) ?_
        refine gs_822 E hW rR ⟨by omega, by omega⟩ (fun hc => rr_up hc (by omega) (by omega) (by unfold rbI; omega)) dX12_estate_69 (fun f62 H locs e63 n64 g65 hW => ?_)
        have z66 : RF rw_X12_estate f0 f62 h0 := rf_st (lo := 340) (hi := 361) z58 mR e63 (by omega) rfl
        have hF := FM.tr hF g65 rfl
        refine lv_aload_n hx hb dX12_estate_70 rfl (lv_at hl 1 rfl) ?_
        refine fg_RX12_8 E hW rh0 dX12_estate_71 (fun a67 m68 r69 => ?_)
        obtain rfl : pR = a67 := (((fm_R g65 rh0 rfl).trans m60)).symm.trans m68
        refine lv_iload_n hx hb dX12_estate_74 rfl (lv_at hl 0 rfl) ?_
        refine lv_iconst (v := 1) hx hb dX12_estate_75 (by decide) ?_
        refine q_iadd (Y := 1) hx hb dX12_estate_76 rfl rfl (by omega) (fun x70 h71 => ?_)
        refine lv_iload_n hx hb dX12_estate_77 rfl (lv_at hl 3 rfl) ?_
        refine gs_822 E hW rR ⟨by omega, by omega⟩ (fun hc => rr_up hc (by omega) (by omega) (by unfold rbI; omega)) dX12_estate_78 (fun f72 H locs e73 n74 g75 hW => ?_)
        have z76 : RF rw_X12_estate f0 f72 h0 := rf_st (lo := 341) (hi := 362) z66 mR e73 (by omega) rfl
        have hF := FM.tr hF g75 rfl
        refine lv_aload_n hx hb dX12_estate_79 rfl (lv_at hl 1 rfl) ?_
        refine fg_RX12_8 E hW rh0 dX12_estate_80 (fun a77 m78 r79 => ?_)
        obtain rfl : pR = a77 := (((fm_R g75 rh0 rfl).trans m68)).symm.trans m78
        refine lv_iload_n hx hb dX12_estate_83 rfl (lv_at hl 0 rfl) ?_
        refine lv_iconst (v := 2) hx hb dX12_estate_84 (by decide) ?_
        refine q_iadd (Y := 2) hx hb dX12_estate_85 rfl rfl (by omega) (fun x80 h81 => ?_)
        refine lv_iconst (v := (-1)) hx hb dX12_estate_86 (by decide) ?_
        have hk82 : ((-1) : Int32).toInt = -1 := rfl
        refine gs_822 E hW rR ⟨by omega, by omega⟩ (fun hc => rr_up hc (by omega) (by omega) (by unfold rbI; omega)) dX12_estate_87 (fun f83 H locs e84 n85 g86 hW => ?_)
        have z87 : RF rw_X12_estate f0 f83 h0 := rf_st (lo := 342) (hi := 363) z76 mR e84 (by omega) rfl
        have hF := FM.tr hF g86 rfl
        refine lv_aload_n hx hb dX12_estate_88 rfl (lv_at hl 1 rfl) ?_
        refine fg_RX12_8 E hW rh0 dX12_estate_89 (fun a88 m89 r90 => ?_)
        obtain rfl : pR = a88 := (((fm_R g86 rh0 rfl).trans m78)).symm.trans m89
        refine lv_iconst (v := 1) hx hb dX12_estate_92 (by decide) ?_
        refine lv_dup2_11 hx hb dX12_estate_93 rfl rfl ?_
        refine gl_822 E hW rR (by decide) dX12_estate_94 (fun y91 m92 b93 => ?_)
        obtain rfl : y41 = y91 := ((show aI (f83 pR) (1 : Int32).toNatClampNeg = y41 from by rw [e84, up_n (tn_ne (by omega) (by decide) (by have hk0 : (1 : Int32).toInt = 1 := rfl; omega))]; exact (show aI (f72 pR) (1 : Int32).toNatClampNeg = y41 from by rw [e73, up_n (tn_ne (by omega) (by decide) (by have hk0 : (1 : Int32).toInt = 1 := rfl; omega))]; exact (show aI (f62 pR) (1 : Int32).toNatClampNeg = y41 from by rw [e63, up_n (tn_ne (by omega) (by decide) (by have hk0 : (1 : Int32).toInt = 1 := rfl; omega))]; exact ((congrArg (fun z => aI z (1 : Int32).toNatClampNeg) (fm_A g55 rR (by decide) rfl)).trans m50))))).symm.trans m92
        refine lv_iconst (v := 1) hx hb dX12_estate_95 (by decide) ?_
        refine q_iadd (Y := 1) hx hb dX12_estate_96 rfl rfl (by omega) (fun x94 h95 => ?_)
        have hk96 : (1 : Int32).toInt = 1 := rfl
        refine gs_822 E hW rR (by decide) (fun hc => rr_up hc (by omega) (by omega) (by unfold rbI; omega)) dX12_estate_97 (fun f97 H locs e98 n99 g100 hW => ?_)
        have m101 : oI (f97 h0) 0 = 0 := ((fm_I g100 rh0 rfl).trans ((fm_I g86 rh0 rfl).trans ((fm_I g75 rh0 rfl).trans ((fm_I g65 rh0 rfl).trans ((fm_I g55 rh0 rfl).trans ((fm_I g32 rh0 rfl).trans ((fm_I g12 rh0 rfl).trans e2)))))))
        have z102 : RF rw_X12_estate f0 f97 h0 := rf_st (lo := 1) (hi := 1) z87 mR e98 (by decide) rfl
        have hF := FM.tr hF g100 rfl
        refine lv_aload_n hx hb dX12_estate_98 rfl (lv_at hl 1 rfl) ?_
        refine lv_aload_n hx hb dX12_estate_99 rfl (lv_at hl 1 rfl) ?_
        refine fg_RX12_8 E hW rh0 dX12_estate_100 (fun a103 m104 r105 => ?_)
        obtain rfl : pR = a103 := (((fm_R g100 rh0 rfl).trans m89)).symm.trans m104
        refine lv_iconst (v := 1) hx hb dX12_estate_103 (by decide) ?_
        refine gl_822 E hW rR (by decide) dX12_estate_104 (fun y106 m107 b108 => ?_)
        obtain rfl : x94 = y106 := ((show aI (f97 pR) (1 : Int32).toNatClampNeg = x94 from by rw [e98]; exact up_s)).symm.trans m107
        refine lv_iconst (v := 1) hx hb dX12_estate_105 (by decide) ?_
        refine q_isub (Y := 1) hx hb dX12_estate_106 rfl rfl (by omega) (fun x109 h110 => ?_)
        refine t_callV (As := [.int x109]) (rest := []) E hW (c_X12_told l G cI cJ cZ cD cR cT kp L f97 hW.2.2.2 _ h0 x109 rh0) rh0 (by decide) rfl wk_X12_told tw_1557 rfl ⟨Nat.le_of_ble_eq_true rfl, Nat.le_of_ble_eq_true rfl⟩ ⟨rfl, rfl⟩ hl.1 rfl (Nat.le_of_ble_eq_true rfl) dX12_estate_107 ⟨Nat.le_of_ble_eq_true rfl, Nat.le_of_ble_eq_true rfl⟩ (fun v111 f112 H locs q113 hW => ?_)
        obtain ⟨⟨x115, rfl, p116⟩, g114⟩ := q113
        clear p116
        have m117 : aI (f112 pR) (x56 : Int32).toNatClampNeg = u1 := ((congrArg (fun z => aI z (x56 : Int32).toNatClampNeg) (fm_A g114 rR (by decide) rfl)).trans (show aI (f97 pR) (x56 : Int32).toNatClampNeg = u1 from by rw [e98, up_n (tn_ne (by decide) (by omega) (by have hk0 : (1 : Int32).toInt = 1 := rfl; omega))]; exact (show aI (f83 pR) (x56 : Int32).toNatClampNeg = u1 from by rw [e84, up_n (tn_ne (by omega) (by omega) (by omega))]; exact (show aI (f72 pR) (x56 : Int32).toNatClampNeg = u1 from by rw [e73, up_n (tn_ne (by omega) (by omega) (by omega))]; exact (show aI (f62 pR) (x56 : Int32).toNatClampNeg = u1 from by rw [e63]; exact up_s)))))
        have m118 : aI (f112 pR) (x70 : Int32).toNatClampNeg = u2 := ((congrArg (fun z => aI z (x70 : Int32).toNatClampNeg) (fm_A g114 rR (by decide) rfl)).trans (show aI (f97 pR) (x70 : Int32).toNatClampNeg = u2 from by rw [e98, up_n (tn_ne (by decide) (by omega) (by have hk0 : (1 : Int32).toInt = 1 := rfl; omega))]; exact (show aI (f83 pR) (x70 : Int32).toNatClampNeg = u2 from by rw [e84, up_n (tn_ne (by omega) (by omega) (by omega))]; exact (show aI (f72 pR) (x70 : Int32).toNatClampNeg = u2 from by rw [e73]; exact up_s))))
        have m119 : aI (f112 pR) (x80 : Int32).toNatClampNeg = (-1) := ((congrArg (fun z => aI z (x80 : Int32).toNatClampNeg) (fm_A g114 rR (by decide) rfl)).trans (show aI (f97 pR) (x80 : Int32).toNatClampNeg = (-1) from by rw [e98, up_n (tn_ne (by decide) (by omega) (by have hk0 : (1 : Int32).toInt = 1 := rfl; omega))]; exact (show aI (f83 pR) (x80 : Int32).toNatClampNeg = (-1) from by rw [e84]; exact up_s)))
        have z120 : RF rw_X12_estate f0 f112 h0 := rf_fm hTH z102 g114 rh0 rfl
        have hF := FM.tr hF g114 rfl
        exact e_I E hW rfl ⟨⟨_, rfl, trivial⟩, hF, z120⟩ dX12_estate_110
      · refine lv_aload_n hx hb dX12_estate_46 rfl (lv_at hl 0 rfl) ?_
        refine lv_bipush (v := (-5)) hx hb dX12_estate_47 (by decide) ?_
        refine t_callV (As := [.int (-5)]) (rest := []) E hW (c_X12_told l G cI cJ cZ cD cR cT kp L f30 hW.2.2.2 _ h0 (-5) rh0) rh0 (by decide) rfl wk_X12_told tw_1557 rfl ⟨Nat.le_of_ble_eq_true rfl, Nat.le_of_ble_eq_true rfl⟩ ⟨rfl, rfl⟩ hl.1 rfl (Nat.le_of_ble_eq_true rfl) dX12_estate_49 ⟨Nat.le_of_ble_eq_true rfl, Nat.le_of_ble_eq_true rfl⟩ (fun v121 f122 H locs q123 hW => ?_)
        obtain ⟨⟨x125, rfl, p126⟩, g124⟩ := q123
        clear p126
        have z127 : RF rw_X12_estate f0 f122 h0 := rf_fm hTH z35 g124 rh0 rfl
        have hF := FM.tr hF g124 rfl
        exact e_I E hW rfl ⟨⟨_, rfl, trivial⟩, hF, z127⟩ dX12_estate_52
    · have q128 : (x26.toInt < 0 ∨ 1000000 < x26.toInt) := by omega
      clear p34
      refine lv_aload_n hx hb dX12_estate_29 rfl (lv_at hl 0 rfl) ?_
      refine lv_iconst (v := (-1)) hx hb dX12_estate_30 (by decide) ?_
      refine t_callV (As := [.int (-1)]) (rest := []) E hW (c_X12_told l G cI cJ cZ cD cR cT kp L f30 hW.2.2.2 _ h0 (-1) rh0) rh0 (by decide) rfl wk_X12_told tw_1557 rfl ⟨Nat.le_of_ble_eq_true rfl, Nat.le_of_ble_eq_true rfl⟩ ⟨rfl, rfl⟩ hl.1 rfl (Nat.le_of_ble_eq_true rfl) dX12_estate_31 ⟨Nat.le_of_ble_eq_true rfl, Nat.le_of_ble_eq_true rfl⟩ (fun v129 f130 H locs q131 hW => ?_)
      obtain ⟨⟨x133, rfl, p134⟩, g132⟩ := q131
      clear p134
      have z135 : RF rw_X12_estate f0 f130 h0 := rf_fm hTH z35 g132 rh0 rfl
      have hF := FM.tr hF g132 rfl
      exact e_I E hW rfl ⟨⟨_, rfl, trivial⟩, hF, z135⟩ dX12_estate_34
def rw_X12_field : List (Nat × Nat) := [(2, 2), (20, 1041)]
def ms_X12_field : List (Nat × Nat) := [(12, 0), (12, 1), (822, 0)]
def po_X12_field (kp : Nat → Nat) (L : List Nat) (f0 : Nat → va_E) (h0 : Nat) (u1 : Int32) (u2 : Int32) (u3 : Int32) (u4 : Int32) : Option Value → (Nat → va_E) → Prop := fun v f => (∃ r : Int32, v = some (.int r) ∧ (True)) ∧ FM kp L ms_X12_field f0 f ∧ (RF rw_X12_field f0 f h0)
set_option maxHeartbeats 4000000 in
set_option maxRecDepth 100000 in
theorem c_X12_field (l : Launch) (G : va_G) (cI cJ cZ cD cR cT : ClassId) (kp : Nat → Nat) (L : List Nat) (f0 : Nat → va_E) (hTH : TH cI cJ cZ cD cR cT kp L f0) (sz : Nat) (h0 : Nat) (u1 : Int32) (u2 : Int32) (u3 : Int32) (u4 : Int32) (rh0 : RK kp L h0 12) : Met l yX12_field (Cond.code yX12_field cX12_field 6 (some .int) :: wTab) ({ frames := 3, cells := 0, slots := 0, locals := 86 }) (va_Pc [.ref h0, .int u1, .int u2, .int u3, .int u4] (PreW G (tys6 cI cJ cZ cD cR cT) (va_pl L f0) sz)) (QT (po_X12_field kp L f0 h0 u1 u2 u3 u4) G cI cJ cZ cD cR cT (va_A (va_pl L f0) sz) kp L) 0 0 (va_A (va_pl L f0) sz) := by
  refine metT (by decide) (Nat.le_of_ble_eq_true rfl) hTH ?_
  intro p e s m below meth c A ls E hW hl
  obtain ⟨hx, hb, -, hml, hown, hts, -, -, -⟩ := id E
  have hF : FM kp L ms_X12_field f0 f0 := FM.rf
  have hl : lv_has ls 6 [(0, .ref h0), (1, .int u1), (2, .int u2), (3, .int u3), (4, .int u4)] := hl
  obtain ⟨pR, mR⟩ : ∃ x : Nat, oR (f0 h0) 2 = x := ⟨_, rfl⟩
  have rR : RK kp L pR 822 := by rw [← mR]; exact th_ref hTH rh0 (by decide) (by decide) rfl
  refine lv_aload_n hx hb dX12_field_0 rfl (lv_at hl 0 rfl) ?_
  refine lv_iconst (v := 0) hx hb dX12_field_1 (by decide) ?_
  refine fp_RX12_82 E hW rh0 dX12_field_2 (fun f1 H locs e2 n3 g4 hW => ?_)
  have z5 : RF rw_X12_field f0 f1 h0 := rf_fm hTH rf_rf g4 rh0 rfl
  have hF := FM.tr hF g4 rfl
  refine lv_iload_n hx hb dX12_field_5 rfl (lv_at hl 2 rfl) ?_
  refine q_i2l hx hb dX12_field_6 rfl (fun x6 h7 => ?_)
  have hb8 : -2147483648 ≤ x6.toInt ∧ x6.toInt ≤ 2147483647 := by have := i32_b u2; omega
  refine lv_lconst (v := 1) hx hb dX12_field_7 (by decide) ?_
  refine lv_ldc2 (v := 1000) hx hb hown (hts _ tw_1618) dX12_field_8 ?_
  refine t_callS (As := [.long x6, .long 1, .long 1000]) (rest := []) E hW (c_X12_in l G cI cJ cZ cD cR cT kp L f1 hW.2.2.2 _ x6 1 1000) wk_X12_in tw_1554 rfl ⟨Nat.le_of_ble_eq_true rfl, Nat.le_of_ble_eq_true rfl⟩ ⟨rfl, rfl⟩ hl.1 rfl (Nat.le_of_ble_eq_true rfl) dX12_field_11 ⟨Nat.le_of_ble_eq_true rfl, Nat.le_of_ble_eq_true rfl⟩ (fun v9 f10 H locs q11 hW => ?_)
  obtain ⟨⟨x13, rfl, p14⟩, g12⟩ := q11
  have p14 : (x13.toInt = 1 ∧ 1 ≤ x6.toInt ∧ x6.toInt ≤ 1000) ∨ (x13.toInt = 0 ∧ (x6.toInt < 1 ∨ 1000 < x6.toInt)) := p14
  have z15 : RF rw_X12_field f0 f10 h0 := rf_fm hTH z5 g12 rh0 rfl
  have hF := FM.tr hF g12 rfl
  refine q_if_eq (tgt := 29) hx hb dX12_field_14 (by decide) rfl (fun c16 => ?_) (fun c16 => ?_)
  · have q17 : (x6.toInt < 1 ∨ 1000 < x6.toInt) := by omega
    clear p14
    refine lv_aload_n hx hb dX12_field_29 rfl (lv_at hl 0 rfl) ?_
    refine lv_iconst (v := (-1)) hx hb dX12_field_30 (by decide) ?_
    refine t_callV (As := [.int (-1)]) (rest := []) E hW (c_X12_told l G cI cJ cZ cD cR cT kp L f10 hW.2.2.2 _ h0 (-1) rh0) rh0 (by decide) rfl wk_X12_told tw_1557 rfl ⟨Nat.le_of_ble_eq_true rfl, Nat.le_of_ble_eq_true rfl⟩ ⟨rfl, rfl⟩ hl.1 rfl (Nat.le_of_ble_eq_true rfl) dX12_field_31 ⟨Nat.le_of_ble_eq_true rfl, Nat.le_of_ble_eq_true rfl⟩ (fun v18 f19 H locs q20 hW => ?_)
    obtain ⟨⟨x22, rfl, p23⟩, g21⟩ := q20
    clear p23
    have z24 : RF rw_X12_field f0 f19 h0 := rf_fm hTH z15 g21 rh0 rfl
    have hF := FM.tr hF g21 rfl
    exact e_I E hW rfl ⟨⟨_, rfl, trivial⟩, hF, z24⟩ dX12_field_34
  · have q25 : 1 ≤ x6.toInt ∧ x6.toInt ≤ 1000 := by omega
    clear p14
    refine lv_iload_n hx hb dX12_field_17 rfl (lv_at hl 3 rfl) ?_
    refine q_i2l hx hb dX12_field_18 rfl (fun x26 h27 => ?_)
    have hb28 : -2147483648 ≤ x26.toInt ∧ x26.toInt ≤ 2147483647 := by have := i32_b u3; omega
    refine lv_lconst (v := 0) hx hb dX12_field_19 (by decide) ?_
    refine lv_ldc2 (v := 100000) hx hb hown (hts _ tw_1619) dX12_field_20 ?_
    refine t_callS (As := [.long x26, .long 0, .long 100000]) (rest := []) E hW (c_X12_in l G cI cJ cZ cD cR cT kp L f10 hW.2.2.2 _ x26 0 100000) wk_X12_in tw_1554 rfl ⟨Nat.le_of_ble_eq_true rfl, Nat.le_of_ble_eq_true rfl⟩ ⟨rfl, rfl⟩ hl.1 rfl (Nat.le_of_ble_eq_true rfl) dX12_field_23 ⟨Nat.le_of_ble_eq_true rfl, Nat.le_of_ble_eq_true rfl⟩ (fun v29 f30 H locs q31 hW => ?_)
    obtain ⟨⟨x33, rfl, p34⟩, g32⟩ := q31
    have p34 : (x33.toInt = 1 ∧ 0 ≤ x26.toInt ∧ x26.toInt ≤ 100000) ∨ (x33.toInt = 0 ∧ (x26.toInt < 0 ∨ 100000 < x26.toInt)) := p34
    have z35 : RF rw_X12_field f0 f30 h0 := rf_fm hTH z15 g32 rh0 rfl
    have hF := FM.tr hF g32 rfl
    refine q_if_ne (tgt := 35) hx hb dX12_field_26 (by decide) rfl (fun c36 => ?_) (fun c36 => ?_)
    · have q37 : 0 ≤ x26.toInt ∧ x26.toInt ≤ 100000 := by omega
      clear p34
      refine lv_aload_n hx hb dX12_field_35 rfl (lv_at hl 0 rfl) ?_
      refine lv_iload_n hx hb dX12_field_36 rfl (lv_at hl 1 rfl) ?_
      refine t_callV (As := [.int u1]) (rest := []) E hW (c_X12_isEstate l G cI cJ cZ cD cR cT kp L f30 hW.2.2.2 _ h0 u1 rh0) rh0 (by decide) rfl wk_X12_isEstate tw_1620 rfl ⟨Nat.le_of_ble_eq_true rfl, Nat.le_of_ble_eq_true rfl⟩ ⟨rfl, rfl⟩ hl.1 rfl (Nat.le_of_ble_eq_true rfl) dX12_field_37 ⟨Nat.le_of_ble_eq_true rfl, Nat.le_of_ble_eq_true rfl⟩ (fun v38 f39 H locs q40 hW => ?_)
      obtain ⟨⟨x42, rfl, p43⟩, g41⟩ := q40
      have z44 : RF rw_X12_field f0 f39 h0 := rf_fm hTH z35 g41 rh0 rfl
      have hF := FM.tr hF g41 rfl
      refine q_if_eq (tgt := 58) hx hb dX12_field_40 (by decide) rfl (fun c45 => ?_) (fun c45 => ?_)
      · clear p43
        refine lv_aload_n hx hb dX12_field_58 rfl (lv_at hl 0 rfl) ?_
        refine lv_bipush (v := (-2)) hx hb dX12_field_59 (by decide) ?_
        refine t_callV (As := [.int (-2)]) (rest := []) E hW (c_X12_told l G cI cJ cZ cD cR cT kp L f39 hW.2.2.2 _ h0 (-2) rh0) rh0 (by decide) rfl wk_X12_told tw_1557 rfl ⟨Nat.le_of_ble_eq_true rfl, Nat.le_of_ble_eq_true rfl⟩ ⟨rfl, rfl⟩ hl.1 rfl (Nat.le_of_ble_eq_true rfl) dX12_field_61 ⟨Nat.le_of_ble_eq_true rfl, Nat.le_of_ble_eq_true rfl⟩ (fun v46 f47 H locs q48 hW => ?_)
        obtain ⟨⟨x50, rfl, p51⟩, g49⟩ := q48
        clear p51
        have z52 : RF rw_X12_field f0 f47 h0 := rf_fm hTH z44 g49 rh0 rfl
        have hF := FM.tr hF g49 rfl
        exact e_I E hW rfl ⟨⟨_, rfl, trivial⟩, hF, z52⟩ dX12_field_64
      · have q53 : 0 ≤ u1.toInt ∧ u1.toInt ≤ 7 := by omega
        clear p43
        refine lv_iload hx hb dX12_field_43 (lv_at hl 4 rfl) ?_
        refine lv_iconst (v := (-1)) hx hb dX12_field_45 (by decide) ?_
        refine q_icmp_eq (Y := -1) (tgt := 65) hx hb dX12_field_46 (by decide) rfl rfl (fun c54 => ?_) (fun c54 => ?_)
        · refine lv_iload hx hb dX12_field_65 (lv_at hl 4 rfl) ?_
          refine lv_iconst (v := (-1)) hx hb dX12_field_67 (by decide) ?_
          refine q_icmp_eq (Y := -1) (tgt := 93) hx hb dX12_field_68 (by decide) rfl rfl (fun c55 => ?_) (fun c55 => ?_)
          · refine lv_aload_n hx hb dX12_field_93 rfl (lv_at hl 0 rfl) ?_
            refine fg_RX12_8 E hW rh0 dX12_field_94 (fun a56 m57 r58 => ?_)
            obtain rfl : pR = a56 := (((fm_R g41 rh0 rfl).trans ((fm_R g32 rh0 rfl).trans ((fm_R g12 rh0 rfl).trans ((fm_R g4 rh0 rfl).trans mR))))).symm.trans m57
            refine lv_iconst (v := 2) hx hb dX12_field_97 (by decide) ?_
            refine gl_822 E hW rR (by decide) dX12_field_98 (fun y59 m60 b61 => ?_)
            have b62 := rr_2 (show RowInv _ from b61) m60 (by decide)
            refine lv_bipush (v := 40) hx hb dX12_field_99 (by decide) ?_
            refine q_icmp_ne (Y := 40) (tgt := 111) hx hb dX12_field_101 (by decide) rfl rfl (fun c63 => ?_) (fun c63 => ?_)
            · refine lv_aload_n hx hb dX12_field_111 rfl (lv_at hl 0 rfl) ?_
              refine fg_RX12_8 E hW rh0 dX12_field_112 (fun a64 m65 r66 => ?_)
              obtain rfl : pR = a64 := (m57).symm.trans m65
              refine lv_iconst (v := 2) hx hb dX12_field_115 (by decide) ?_
              refine gl_822 E hW rR (by decide) dX12_field_116 (fun y67 m68 b69 => ?_)
              obtain rfl : y59 = y67 := (m60).symm.trans m68
              refine t_callS (As := [.int y59]) (rest := []) E hW (c_X12_fieldAt l G cI cJ cZ cD cR cT kp L f39 hW.2.2.2 _ y59 (by omega)) wk_X12_fieldAt tw_1624 rfl ⟨Nat.le_of_ble_eq_true rfl, Nat.le_of_ble_eq_true rfl⟩ ⟨rfl, rfl⟩ hl.1 rfl (Nat.le_of_ble_eq_true rfl) dX12_field_117 ⟨Nat.le_of_ble_eq_true rfl, Nat.le_of_ble_eq_true rfl⟩ (fun v70 f71 H locs q72 hW => ?_)
              obtain ⟨⟨x74, rfl, p75⟩, g73⟩ := q72
              have z76 : RF rw_X12_field f0 f71 h0 := rf_fm hTH z44 g73 rh0 rfl
              have hF := FM.tr hF g73 rfl
              refine lv_istore (lv' := [(5, .int x74), (0, .ref h0), (1, .int u1), (2, .int u2), (3, .int u3), (4, .int u4)]) hx hb dX12_field_120 hl (by decide) rfl (fun ls hl => ?_)
              refine lv_aload_n hx hb dX12_field_122 rfl (lv_at hl 1 rfl) ?_
              refine lv_iload hx hb dX12_field_123 (lv_at hl 0 rfl) ?_
              refine lv_iload_n hx hb dX12_field_125 rfl (lv_at hl 2 rfl) ?_
              refine lv_iload_n hx hb dX12_field_126 rfl (lv_at hl 3 rfl) ?_
              refine lv_iload_n hx hb dX12_field_127 rfl (lv_at hl 4 rfl) ?_
              refine lv_iload hx hb dX12_field_128 (lv_at hl 5 rfl) ?_
              refine t_callV (As := [.int x74, .int u1, .int u2, .int u3, .int u4]) (rest := []) E hW (c_X12_addFour l G cI cJ cZ cD cR cT kp L f71 hW.2.2.2 _ h0 x74 u1 u2 u3 u4 rh0 (by omega) (by omega) (by omega) (by omega) ⟨by omega, by omega, by unfold rbI; omega, by unfold rbI; omega, by unfold rbI; omega, by unfold rbI; omega⟩) rh0 (by decide) rfl wk_X12_addFour tw_1575 rfl ⟨Nat.le_of_ble_eq_true rfl, Nat.le_of_ble_eq_true rfl⟩ ⟨rfl, rfl⟩ hl.1 rfl (Nat.le_of_ble_eq_true rfl) dX12_field_130 ⟨Nat.le_of_ble_eq_true rfl, Nat.le_of_ble_eq_true rfl⟩ (fun v77 f78 H locs q79 hW => ?_)
              obtain ⟨rfl, g80, h81, h82⟩ := q79
              have z83 : RF rw_X12_field f0 f78 h0 := rf_call z76 h82 mR ((fm_R g73 rh0 rfl).trans m65) rfl
              have hF := FM.tr hF g80 rfl
              have m84 : aI (f78 pR) (2 : Int32).toNatClampNeg = y59 := by
                have z := h81
                rw [((fm_R g73 rh0 rfl).trans m65)] at z
                have z2 := tnc (i := 2) (by first | omega | decide)
                have hk : (2 : Int32).toInt = 2 := rfl
                exact (z _ (by omega)).trans ((congrArg (fun z => aI z (2 : Int32).toNatClampNeg) (fm_A g73 rR (by decide) rfl)).trans m68)
              refine lv_aload_n hx hb dX12_field_133 rfl (lv_at hl 1 rfl) ?_
              refine lv_iload hx hb dX12_field_134 (lv_at hl 0 rfl) ?_
              refine lv_iconst (v := 4) hx hb dX12_field_136 (by decide) ?_
              refine q_iadd (Y := 4) hx hb dX12_field_137 rfl rfl (by omega) (fun x85 h86 => ?_)
              refine lv_iconst (v := 0) hx hb dX12_field_138 (by decide) ?_
              refine lv_iconst (v := 0) hx hb dX12_field_139 (by decide) ?_
              refine lv_iconst (v := 0) hx hb dX12_field_140 (by decide) ?_
              refine lv_iconst (v := 0) hx hb dX12_field_141 (by decide) ?_
              have hk87 : (0 : Int32).toInt = 0 := rfl
              have hk88 : (0 : Int32).toInt = 0 := rfl
              have hk89 : (0 : Int32).toInt = 0 := rfl
              have hk90 : (0 : Int32).toInt = 0 := rfl
              refine t_callV (As := [.int x85, .int 0, .int 0, .int 0, .int 0]) (rest := []) E hW (c_X12_addFour l G cI cJ cZ cD cR cT kp L f78 hW.2.2.2 _ h0 x85 0 0 0 0 rh0 (by omega) (by decide) (by decide) (by decide) ⟨by omega, by omega, by unfold rbI; omega, by unfold rbI; omega, by unfold rbI; omega, by unfold rbI; omega⟩) rh0 (by decide) rfl wk_X12_addFour tw_1575 rfl ⟨Nat.le_of_ble_eq_true rfl, Nat.le_of_ble_eq_true rfl⟩ ⟨rfl, rfl⟩ hl.1 rfl (Nat.le_of_ble_eq_true rfl) dX12_field_142 ⟨Nat.le_of_ble_eq_true rfl, Nat.le_of_ble_eq_true rfl⟩ (fun v91 f92 H locs q93 hW => ?_)
              obtain ⟨rfl, g94, h95, h96⟩ := q93
              have z97 : RF rw_X12_field f0 f92 h0 := rf_call z83 h96 mR ((fm_R g80 rh0 rfl).trans ((fm_R g73 rh0 rfl).trans m65)) rfl
              have hF := FM.tr hF g94 rfl
              have m98 : aI (f92 pR) (2 : Int32).toNatClampNeg = y59 := by
                have z := h95
                rw [((fm_R g80 rh0 rfl).trans ((fm_R g73 rh0 rfl).trans m65))] at z
                have z2 := tnc (i := 2) (by first | omega | decide)
                have hk : (2 : Int32).toInt = 2 := rfl
                exact (z _ (by omega)).trans m84
              refine lv_iload hx hb dX12_field_145 (lv_at hl 5 rfl) ?_
              refine lv_iconst (v := (-1)) hx hb dX12_field_147 (by decide) ?_
              refine q_icmp_eq (Y := -1) (tgt := 165) hx hb dX12_field_148 (by decide) rfl rfl (fun c99 => ?_) (fun c99 => ?_)
              · refine lv_aload_n hx hb dX12_field_165 rfl (lv_at hl 1 rfl) ?_
                refine fg_RX12_8 E hW rh0 dX12_field_166 (fun a100 m101 r102 => ?_)
                obtain rfl : pR = a100 := (((fm_R g94 rh0 rfl).trans ((fm_R g80 rh0 rfl).trans ((fm_R g73 rh0 rfl).trans m65)))).symm.trans m101
                refine lv_iconst (v := 2) hx hb dX12_field_169 (by decide) ?_
                refine lv_dup2_11 hx hb dX12_field_170 rfl rfl ?_
                refine gl_822 E hW rR (by decide) dX12_field_171 (fun y103 m104 b105 => ?_)
                obtain rfl : y59 = y103 := (m98).symm.trans m104
                refine lv_iconst (v := 1) hx hb dX12_field_172 (by decide) ?_
                refine q_iadd (Y := 1) hx hb dX12_field_173 rfl rfl (by omega) (fun x106 h107 => ?_)
                have hk108 : (2 : Int32).toInt = 2 := rfl
                refine gs_822 E hW rR (by decide) (fun hc => rr_up hc (by omega) (by omega) (by unfold rbI; omega)) dX12_field_174 (fun f109 H locs e110 n111 g112 hW => ?_)
                have m113 : oI (f109 h0) 0 = 0 := ((fm_I g112 rh0 rfl).trans ((fm_I g94 rh0 rfl).trans ((fm_I g80 rh0 rfl).trans ((fm_I g73 rh0 rfl).trans ((fm_I g41 rh0 rfl).trans ((fm_I g32 rh0 rfl).trans ((fm_I g12 rh0 rfl).trans e2)))))))
                have z114 : RF rw_X12_field f0 f109 h0 := rf_st (lo := 2) (hi := 2) z97 mR e110 (by decide) rfl
                have hF := FM.tr hF g112 rfl
                refine lv_aload_n hx hb dX12_field_175 rfl (lv_at hl 1 rfl) ?_
                refine lv_aload_n hx hb dX12_field_176 rfl (lv_at hl 1 rfl) ?_
                refine fg_RX12_8 E hW rh0 dX12_field_177 (fun a115 m116 r117 => ?_)
                obtain rfl : pR = a115 := (((fm_R g112 rh0 rfl).trans m101)).symm.trans m116
                refine lv_iconst (v := 2) hx hb dX12_field_180 (by decide) ?_
                refine gl_822 E hW rR (by decide) dX12_field_181 (fun y118 m119 b120 => ?_)
                obtain rfl : x106 = y118 := ((show aI (f109 pR) (2 : Int32).toNatClampNeg = x106 from by rw [e110]; exact up_s)).symm.trans m119
                refine lv_iconst (v := 1) hx hb dX12_field_182 (by decide) ?_
                refine q_isub (Y := 1) hx hb dX12_field_183 rfl rfl (by omega) (fun x121 h122 => ?_)
                refine t_callV (As := [.int x121]) (rest := []) E hW (c_X12_told l G cI cJ cZ cD cR cT kp L f109 hW.2.2.2 _ h0 x121 rh0) rh0 (by decide) rfl wk_X12_told tw_1557 rfl ⟨Nat.le_of_ble_eq_true rfl, Nat.le_of_ble_eq_true rfl⟩ ⟨rfl, rfl⟩ hl.1 rfl (Nat.le_of_ble_eq_true rfl) dX12_field_184 ⟨Nat.le_of_ble_eq_true rfl, Nat.le_of_ble_eq_true rfl⟩ (fun v123 f124 H locs q125 hW => ?_)
                obtain ⟨⟨x127, rfl, p128⟩, g126⟩ := q125
                clear p128
                have z129 : RF rw_X12_field f0 f124 h0 := rf_fm hTH z114 g126 rh0 rfl
                have hF := FM.tr hF g126 rfl
                exact e_I E hW rfl ⟨⟨_, rfl, trivial⟩, hF, z129⟩ dX12_field_187
              · exfalso; omega
            · refine lv_aload_n hx hb dX12_field_104 rfl (lv_at hl 0 rfl) ?_
              refine lv_bipush (v := (-5)) hx hb dX12_field_105 (by decide) ?_
              refine t_callV (As := [.int (-5)]) (rest := []) E hW (c_X12_told l G cI cJ cZ cD cR cT kp L f39 hW.2.2.2 _ h0 (-5) rh0) rh0 (by decide) rfl wk_X12_told tw_1557 rfl ⟨Nat.le_of_ble_eq_true rfl, Nat.le_of_ble_eq_true rfl⟩ ⟨rfl, rfl⟩ hl.1 rfl (Nat.le_of_ble_eq_true rfl) dX12_field_107 ⟨Nat.le_of_ble_eq_true rfl, Nat.le_of_ble_eq_true rfl⟩ (fun v130 f131 H locs q132 hW => ?_)
              obtain ⟨⟨x134, rfl, p135⟩, g133⟩ := q132
              clear p135
              have z136 : RF rw_X12_field f0 f131 h0 := rf_fm hTH z44 g133 rh0 rfl
              have hF := FM.tr hF g133 rfl
              exact e_I E hW rfl ⟨⟨_, rfl, trivial⟩, hF, z136⟩ dX12_field_110
          · exfalso; omega
        · refine lv_aload_n hx hb dX12_field_49 rfl (lv_at hl 0 rfl) ?_
          refine lv_iload hx hb dX12_field_50 (lv_at hl 4 rfl) ?_
          refine t_callV (As := [.int u4]) (rest := []) E hW (c_X12_isPerson l G cI cJ cZ cD cR cT kp L f39 hW.2.2.2 _ h0 u4 rh0) rh0 (by decide) rfl wk_X12_isPerson tw_1583 rfl ⟨Nat.le_of_ble_eq_true rfl, Nat.le_of_ble_eq_true rfl⟩ ⟨rfl, rfl⟩ hl.1 rfl (Nat.le_of_ble_eq_true rfl) dX12_field_52 ⟨Nat.le_of_ble_eq_true rfl, Nat.le_of_ble_eq_true rfl⟩ (fun v137 f138 H locs q139 hW => ?_)
          obtain ⟨⟨x141, rfl, p142⟩, g140⟩ := q139
          have z143 : RF rw_X12_field f0 f138 h0 := rf_fm hTH z44 g140 rh0 rfl
          have hF := FM.tr hF g140 rfl
          refine q_if_ne (tgt := 65) hx hb dX12_field_55 (by decide) rfl (fun c144 => ?_) (fun c144 => ?_)
          · have q145 : 0 ≤ u4.toInt ∧ u4.toInt ≤ 39 := by omega
            clear p142
            refine lv_iload hx hb dX12_field_65 (lv_at hl 4 rfl) ?_
            refine lv_iconst (v := (-1)) hx hb dX12_field_67 (by decide) ?_
            refine q_icmp_eq (Y := -1) (tgt := 93) hx hb dX12_field_68 (by decide) rfl rfl (fun c146 => ?_) (fun c146 => ?_)
            · exfalso; omega
            · refine lv_aload_n hx hb dX12_field_71 rfl (lv_at hl 0 rfl) ?_
              refine fg_RX12_8 E hW rh0 dX12_field_72 (fun a147 m148 r149 => ?_)
              obtain rfl : pR = a147 := (((fm_R g140 rh0 rfl).trans ((fm_R g41 rh0 rfl).trans ((fm_R g32 rh0 rfl).trans ((fm_R g12 rh0 rfl).trans ((fm_R g4 rh0 rfl).trans mR)))))).symm.trans m148
              refine lv_iload hx hb dX12_field_75 (lv_at hl 4 rfl) ?_
              refine t_callS (As := [.int u4]) (rest := [.ref pR]) E hW (c_X12_personAt l G cI cJ cZ cD cR cT kp L f138 hW.2.2.2 _ u4 (by omega)) wk_X12_personAt tw_1572 rfl ⟨Nat.le_of_ble_eq_true rfl, Nat.le_of_ble_eq_true rfl⟩ ⟨rfl, rfl⟩ hl.1 rfl (Nat.le_of_ble_eq_true rfl) dX12_field_77 ⟨Nat.le_of_ble_eq_true rfl, Nat.le_of_ble_eq_true rfl⟩ (fun v150 f151 H locs q152 hW => ?_)
              obtain ⟨⟨x154, rfl, p155⟩, g153⟩ := q152
              have z156 : RF rw_X12_field f0 f151 h0 := rf_fm hTH z143 g153 rh0 rfl
              have hF := FM.tr hF g153 rfl
              refine lv_iconst (v := 5) hx hb dX12_field_80 (by decide) ?_
              refine q_iadd (Y := 5) hx hb dX12_field_81 rfl rfl (by omega) (fun x157 h158 => ?_)
              refine gl_822 E hW rR ⟨by omega, by omega⟩ dX12_field_82 (fun y159 m160 b161 => ?_)
              refine q_if_eq (tgt := 93) hx hb dX12_field_83 (by decide) rfl (fun c162 => ?_) (fun c162 => ?_)
              · refine lv_aload_n hx hb dX12_field_93 rfl (lv_at hl 0 rfl) ?_
                refine fg_RX12_8 E hW rh0 dX12_field_94 (fun a163 m164 r165 => ?_)
                obtain rfl : pR = a163 := (((fm_R g153 rh0 rfl).trans m148)).symm.trans m164
                refine lv_iconst (v := 2) hx hb dX12_field_97 (by decide) ?_
                refine gl_822 E hW rR (by decide) dX12_field_98 (fun y166 m167 b168 => ?_)
                have b169 := rr_2 (show RowInv _ from b168) m167 (by decide)
                refine lv_bipush (v := 40) hx hb dX12_field_99 (by decide) ?_
                refine q_icmp_ne (Y := 40) (tgt := 111) hx hb dX12_field_101 (by decide) rfl rfl (fun c170 => ?_) (fun c170 => ?_)
                · refine lv_aload_n hx hb dX12_field_111 rfl (lv_at hl 0 rfl) ?_
                  refine fg_RX12_8 E hW rh0 dX12_field_112 (fun a171 m172 r173 => ?_)
                  obtain rfl : pR = a171 := (m164).symm.trans m172
                  refine lv_iconst (v := 2) hx hb dX12_field_115 (by decide) ?_
                  refine gl_822 E hW rR (by decide) dX12_field_116 (fun y174 m175 b176 => ?_)
                  obtain rfl : y166 = y174 := (m167).symm.trans m175
                  refine t_callS (As := [.int y166]) (rest := []) E hW (c_X12_fieldAt l G cI cJ cZ cD cR cT kp L f151 hW.2.2.2 _ y166 (by omega)) wk_X12_fieldAt tw_1624 rfl ⟨Nat.le_of_ble_eq_true rfl, Nat.le_of_ble_eq_true rfl⟩ ⟨rfl, rfl⟩ hl.1 rfl (Nat.le_of_ble_eq_true rfl) dX12_field_117 ⟨Nat.le_of_ble_eq_true rfl, Nat.le_of_ble_eq_true rfl⟩ (fun v177 f178 H locs q179 hW => ?_)
                  obtain ⟨⟨x181, rfl, p182⟩, g180⟩ := q179
                  have z183 : RF rw_X12_field f0 f178 h0 := rf_fm hTH z156 g180 rh0 rfl
                  have hF := FM.tr hF g180 rfl
                  refine lv_istore (lv' := [(5, .int x181), (0, .ref h0), (1, .int u1), (2, .int u2), (3, .int u3), (4, .int u4)]) hx hb dX12_field_120 hl (by decide) rfl (fun ls hl => ?_)
                  refine lv_aload_n hx hb dX12_field_122 rfl (lv_at hl 1 rfl) ?_
                  refine lv_iload hx hb dX12_field_123 (lv_at hl 0 rfl) ?_
                  refine lv_iload_n hx hb dX12_field_125 rfl (lv_at hl 2 rfl) ?_
                  refine lv_iload_n hx hb dX12_field_126 rfl (lv_at hl 3 rfl) ?_
                  refine lv_iload_n hx hb dX12_field_127 rfl (lv_at hl 4 rfl) ?_
                  refine lv_iload hx hb dX12_field_128 (lv_at hl 5 rfl) ?_
                  refine t_callV (As := [.int x181, .int u1, .int u2, .int u3, .int u4]) (rest := []) E hW (c_X12_addFour l G cI cJ cZ cD cR cT kp L f178 hW.2.2.2 _ h0 x181 u1 u2 u3 u4 rh0 (by omega) (by omega) (by omega) (by omega) ⟨by omega, by omega, by unfold rbI; omega, by unfold rbI; omega, by unfold rbI; omega, by unfold rbI; omega⟩) rh0 (by decide) rfl wk_X12_addFour tw_1575 rfl ⟨Nat.le_of_ble_eq_true rfl, Nat.le_of_ble_eq_true rfl⟩ ⟨rfl, rfl⟩ hl.1 rfl (Nat.le_of_ble_eq_true rfl) dX12_field_130 ⟨Nat.le_of_ble_eq_true rfl, Nat.le_of_ble_eq_true rfl⟩ (fun v184 f185 H locs q186 hW => ?_)
                  obtain ⟨rfl, g187, h188, h189⟩ := q186
                  have m190 : oI (f185 h0) 0 = 0 := ((fm_I g187 rh0 rfl).trans ((fm_I g180 rh0 rfl).trans ((fm_I g153 rh0 rfl).trans ((fm_I g140 rh0 rfl).trans ((fm_I g41 rh0 rfl).trans ((fm_I g32 rh0 rfl).trans ((fm_I g12 rh0 rfl).trans e2)))))))
                  have z191 : RF rw_X12_field f0 f185 h0 := rf_call z183 h189 mR ((fm_R g180 rh0 rfl).trans m172) rfl
                  have hF := FM.tr hF g187 rfl
                  have m192 : aI (f185 pR) (x157 : Int32).toNatClampNeg = y159 := by
                    have z := h188
                    rw [((fm_R g180 rh0 rfl).trans m172)] at z
                    have z2 := tnc (i := x157) (by first | omega | decide)
                    have hk : (x157 : Int32).toInt = x157.toInt := rfl
                    exact (z _ (by omega)).trans ((congrArg (fun z => aI z (x157 : Int32).toNatClampNeg) (fm_A g180 rR (by decide) rfl)).trans m160)
                  have m193 : aI (f185 pR) (2 : Int32).toNatClampNeg = y166 := by
                    have z := h188
                    rw [((fm_R g180 rh0 rfl).trans m172)] at z
                    have z2 := tnc (i := 2) (by first | omega | decide)
                    have hk : (2 : Int32).toInt = 2 := rfl
                    exact (z _ (by omega)).trans ((congrArg (fun z => aI z (2 : Int32).toNatClampNeg) (fm_A g180 rR (by decide) rfl)).trans m175)
                  refine lv_aload_n hx hb dX12_field_133 rfl (lv_at hl 1 rfl) ?_
                  refine lv_iload hx hb dX12_field_134 (lv_at hl 0 rfl) ?_
                  refine lv_iconst (v := 4) hx hb dX12_field_136 (by decide) ?_
                  refine q_iadd (Y := 4) hx hb dX12_field_137 rfl rfl (by omega) (fun x194 h195 => ?_)
                  refine lv_iconst (v := 0) hx hb dX12_field_138 (by decide) ?_
                  refine lv_iconst (v := 0) hx hb dX12_field_139 (by decide) ?_
                  refine lv_iconst (v := 0) hx hb dX12_field_140 (by decide) ?_
                  refine lv_iconst (v := 0) hx hb dX12_field_141 (by decide) ?_
                  have hk196 : (0 : Int32).toInt = 0 := rfl
                  have hk197 : (0 : Int32).toInt = 0 := rfl
                  have hk198 : (0 : Int32).toInt = 0 := rfl
                  have hk199 : (0 : Int32).toInt = 0 := rfl
                  refine t_callV (As := [.int x194, .int 0, .int 0, .int 0, .int 0]) (rest := []) E hW (c_X12_addFour l G cI cJ cZ cD cR cT kp L f185 hW.2.2.2 _ h0 x194 0 0 0 0 rh0 (by omega) (by decide) (by decide) (by decide) ⟨by omega, by omega, by unfold rbI; omega, by unfold rbI; omega, by unfold rbI; omega, by unfold rbI; omega⟩) rh0 (by decide) rfl wk_X12_addFour tw_1575 rfl ⟨Nat.le_of_ble_eq_true rfl, Nat.le_of_ble_eq_true rfl⟩ ⟨rfl, rfl⟩ hl.1 rfl (Nat.le_of_ble_eq_true rfl) dX12_field_142 ⟨Nat.le_of_ble_eq_true rfl, Nat.le_of_ble_eq_true rfl⟩ (fun v200 f201 H locs q202 hW => ?_)
                  obtain ⟨rfl, g203, h204, h205⟩ := q202
                  have z206 : RF rw_X12_field f0 f201 h0 := rf_call z191 h205 mR ((fm_R g187 rh0 rfl).trans ((fm_R g180 rh0 rfl).trans m172)) rfl
                  have hF := FM.tr hF g203 rfl
                  have m207 : aI (f201 pR) (2 : Int32).toNatClampNeg = y166 := by
                    have z := h204
                    rw [((fm_R g187 rh0 rfl).trans ((fm_R g180 rh0 rfl).trans m172))] at z
                    have z2 := tnc (i := 2) (by first | omega | decide)
                    have hk : (2 : Int32).toInt = 2 := rfl
                    exact (z _ (by omega)).trans m193
                  have m208 : aI (f201 pR) (x157 : Int32).toNatClampNeg = y159 := by
                    have z := h204
                    rw [((fm_R g187 rh0 rfl).trans ((fm_R g180 rh0 rfl).trans m172))] at z
                    have z2 := tnc (i := x157) (by first | omega | decide)
                    have hk : (x157 : Int32).toInt = x157.toInt := rfl
                    exact (z _ (by omega)).trans m192
                  refine lv_iload hx hb dX12_field_145 (lv_at hl 5 rfl) ?_
                  refine lv_iconst (v := (-1)) hx hb dX12_field_147 (by decide) ?_
                  refine q_icmp_eq (Y := -1) (tgt := 165) hx hb dX12_field_148 (by decide) rfl rfl (fun c226 => ?_) (fun c226 => ?_)
                  · exfalso; omega
                  · refine lv_aload_n hx hb dX12_field_151 rfl (lv_at hl 1 rfl) ?_
                    refine fg_RX12_8 E hW rh0 dX12_field_152 (fun a227 m228 r229 => ?_)
                    obtain rfl : pR = a227 := (((fm_R g203 rh0 rfl).trans ((fm_R g187 rh0 rfl).trans ((fm_R g180 rh0 rfl).trans m172)))).symm.trans m228
                    refine lv_iload hx hb dX12_field_155 (lv_at hl 5 rfl) ?_
                    refine t_callS (As := [.int u4]) (rest := [.ref pR]) E hW (c_X12_personAt l G cI cJ cZ cD cR cT kp L f201 hW.2.2.2 _ u4 (by omega)) wk_X12_personAt tw_1572 rfl ⟨Nat.le_of_ble_eq_true rfl, Nat.le_of_ble_eq_true rfl⟩ ⟨rfl, rfl⟩ hl.1 rfl (Nat.le_of_ble_eq_true rfl) dX12_field_157 ⟨Nat.le_of_ble_eq_true rfl, Nat.le_of_ble_eq_true rfl⟩ (fun v230 f231 H locs q232 hW => ?_)
                    obtain ⟨⟨x234, rfl, p235⟩, g233⟩ := q232
                    have z236 : RF rw_X12_field f0 f231 h0 := rf_fm hTH z206 g233 rh0 rfl
                    have hF := FM.tr hF g233 rfl
                    refine lv_bipush (v := 7) hx hb dX12_field_160 (by decide) ?_
                    refine q_iadd (Y := 7) hx hb dX12_field_162 rfl rfl (by omega) (fun x237 h238 => ?_)
                    refine lv_iconst (v := (-1)) hx hb dX12_field_163 (by decide) ?_
                    have hk239 : ((-1) : Int32).toInt = -1 := rfl
                    refine gs_822 E hW rR ⟨by omega, by omega⟩ (fun hc => rr_up hc (by omega) (by omega) (by unfold rbI; omega)) dX12_field_164 (fun f240 H locs e241 n242 g243 hW => ?_)
                    have z244 : RF rw_X12_field f0 f240 h0 := rf_st (lo := 27) (hi := 339) z236 mR e241 (by omega) rfl
                    have hF := FM.tr hF g243 rfl
                    refine lv_aload_n hx hb dX12_field_165 rfl (lv_at hl 1 rfl) ?_
                    refine fg_RX12_8 E hW rh0 dX12_field_166 (fun a245 m246 r247 => ?_)
                    obtain rfl : pR = a245 := (((fm_R g243 rh0 rfl).trans ((fm_R g233 rh0 rfl).trans m228))).symm.trans m246
                    refine lv_iconst (v := 2) hx hb dX12_field_169 (by decide) ?_
                    refine lv_dup2_11 hx hb dX12_field_170 rfl rfl ?_
                    refine gl_822 E hW rR (by decide) dX12_field_171 (fun y248 m249 b250 => ?_)
                    obtain rfl : y166 = y248 := ((show aI (f240 pR) (2 : Int32).toNatClampNeg = y166 from by rw [e241, up_n (tn_ne (by omega) (by decide) (by have hk0 : (2 : Int32).toInt = 2 := rfl; omega))]; exact ((congrArg (fun z => aI z (2 : Int32).toNatClampNeg) (fm_A g233 rR (by decide) rfl)).trans m207))).symm.trans m249
                    refine lv_iconst (v := 1) hx hb dX12_field_172 (by decide) ?_
                    refine q_iadd (Y := 1) hx hb dX12_field_173 rfl rfl (by omega) (fun x251 h252 => ?_)
                    have hk253 : (2 : Int32).toInt = 2 := rfl
                    refine gs_822 E hW rR (by decide) (fun hc => rr_up hc (by omega) (by omega) (by unfold rbI; omega)) dX12_field_174 (fun f254 H locs e255 n256 g257 hW => ?_)
                    have z258 : RF rw_X12_field f0 f254 h0 := rf_st (lo := 2) (hi := 2) z244 mR e255 (by decide) rfl
                    have hF := FM.tr hF g257 rfl
                    refine lv_aload_n hx hb dX12_field_175 rfl (lv_at hl 1 rfl) ?_
                    refine lv_aload_n hx hb dX12_field_176 rfl (lv_at hl 1 rfl) ?_
                    refine fg_RX12_8 E hW rh0 dX12_field_177 (fun a259 m260 r261 => ?_)
                    obtain rfl : pR = a259 := (((fm_R g257 rh0 rfl).trans m246)).symm.trans m260
                    refine lv_iconst (v := 2) hx hb dX12_field_180 (by decide) ?_
                    refine gl_822 E hW rR (by decide) dX12_field_181 (fun y262 m263 b264 => ?_)
                    obtain rfl : x251 = y262 := ((show aI (f254 pR) (2 : Int32).toNatClampNeg = x251 from by rw [e255]; exact up_s)).symm.trans m263
                    refine lv_iconst (v := 1) hx hb dX12_field_182 (by decide) ?_
                    refine q_isub (Y := 1) hx hb dX12_field_183 rfl rfl (by omega) (fun x265 h266 => ?_)
                    refine t_callV (As := [.int x265]) (rest := []) E hW (c_X12_told l G cI cJ cZ cD cR cT kp L f254 hW.2.2.2 _ h0 x265 rh0) rh0 (by decide) rfl wk_X12_told tw_1557 rfl ⟨Nat.le_of_ble_eq_true rfl, Nat.le_of_ble_eq_true rfl⟩ ⟨rfl, rfl⟩ hl.1 rfl (Nat.le_of_ble_eq_true rfl) dX12_field_184 ⟨Nat.le_of_ble_eq_true rfl, Nat.le_of_ble_eq_true rfl⟩ (fun v267 f268 H locs q269 hW => ?_)
                    obtain ⟨⟨x271, rfl, p272⟩, g270⟩ := q269
                    clear p272
                    have m273 : aI (f268 pR) (x157 : Int32).toNatClampNeg = y159 := ((congrArg (fun z => aI z (x157 : Int32).toNatClampNeg) (fm_A g270 rR (by decide) rfl)).trans (show aI (f254 pR) (x157 : Int32).toNatClampNeg = y159 from by rw [e255, up_n (tn_ne (by decide) (by omega) (by have hk0 : (2 : Int32).toInt = 2 := rfl; omega))]; exact (show aI (f240 pR) (x157 : Int32).toNatClampNeg = y159 from by rw [e241, up_n (tn_ne (by omega) (by omega) (by omega))]; exact ((congrArg (fun z => aI z (x157 : Int32).toNatClampNeg) (fm_A g233 rR (by decide) rfl)).trans m208))))
                    have m274 : aI (f268 pR) (x237 : Int32).toNatClampNeg = (-1) := ((congrArg (fun z => aI z (x237 : Int32).toNatClampNeg) (fm_A g270 rR (by decide) rfl)).trans (show aI (f254 pR) (x237 : Int32).toNatClampNeg = (-1) from by rw [e255, up_n (tn_ne (by decide) (by omega) (by have hk0 : (2 : Int32).toInt = 2 := rfl; omega))]; exact (show aI (f240 pR) (x237 : Int32).toNatClampNeg = (-1) from by rw [e241]; exact up_s)))
                    have z275 : RF rw_X12_field f0 f268 h0 := rf_fm hTH z258 g270 rh0 rfl
                    have hF := FM.tr hF g270 rfl
                    exact e_I E hW rfl ⟨⟨_, rfl, trivial⟩, hF, z275⟩ dX12_field_187
                · refine lv_aload_n hx hb dX12_field_104 rfl (lv_at hl 0 rfl) ?_
                  refine lv_bipush (v := (-5)) hx hb dX12_field_105 (by decide) ?_
                  refine t_callV (As := [.int (-5)]) (rest := []) E hW (c_X12_told l G cI cJ cZ cD cR cT kp L f151 hW.2.2.2 _ h0 (-5) rh0) rh0 (by decide) rfl wk_X12_told tw_1557 rfl ⟨Nat.le_of_ble_eq_true rfl, Nat.le_of_ble_eq_true rfl⟩ ⟨rfl, rfl⟩ hl.1 rfl (Nat.le_of_ble_eq_true rfl) dX12_field_107 ⟨Nat.le_of_ble_eq_true rfl, Nat.le_of_ble_eq_true rfl⟩ (fun v276 f277 H locs q278 hW => ?_)
                  obtain ⟨⟨x280, rfl, p281⟩, g279⟩ := q278
                  clear p281
                  have z282 : RF rw_X12_field f0 f277 h0 := rf_fm hTH z156 g279 rh0 rfl
                  have hF := FM.tr hF g279 rfl
                  exact e_I E hW rfl ⟨⟨_, rfl, trivial⟩, hF, z282⟩ dX12_field_110
              · refine lv_aload_n hx hb dX12_field_86 rfl (lv_at hl 0 rfl) ?_
                refine lv_bipush (v := (-3)) hx hb dX12_field_87 (by decide) ?_
                refine t_callV (As := [.int (-3)]) (rest := []) E hW (c_X12_told l G cI cJ cZ cD cR cT kp L f151 hW.2.2.2 _ h0 (-3) rh0) rh0 (by decide) rfl wk_X12_told tw_1557 rfl ⟨Nat.le_of_ble_eq_true rfl, Nat.le_of_ble_eq_true rfl⟩ ⟨rfl, rfl⟩ hl.1 rfl (Nat.le_of_ble_eq_true rfl) dX12_field_89 ⟨Nat.le_of_ble_eq_true rfl, Nat.le_of_ble_eq_true rfl⟩ (fun v283 f284 H locs q285 hW => ?_)
                obtain ⟨⟨x287, rfl, p288⟩, g286⟩ := q285
                clear p288
                have z289 : RF rw_X12_field f0 f284 h0 := rf_fm hTH z156 g286 rh0 rfl
                have hF := FM.tr hF g286 rfl
                exact e_I E hW rfl ⟨⟨_, rfl, trivial⟩, hF, z289⟩ dX12_field_92
          · clear p142
            refine lv_aload_n hx hb dX12_field_58 rfl (lv_at hl 0 rfl) ?_
            refine lv_bipush (v := (-2)) hx hb dX12_field_59 (by decide) ?_
            refine t_callV (As := [.int (-2)]) (rest := []) E hW (c_X12_told l G cI cJ cZ cD cR cT kp L f138 hW.2.2.2 _ h0 (-2) rh0) rh0 (by decide) rfl wk_X12_told tw_1557 rfl ⟨Nat.le_of_ble_eq_true rfl, Nat.le_of_ble_eq_true rfl⟩ ⟨rfl, rfl⟩ hl.1 rfl (Nat.le_of_ble_eq_true rfl) dX12_field_61 ⟨Nat.le_of_ble_eq_true rfl, Nat.le_of_ble_eq_true rfl⟩ (fun v290 f291 H locs q292 hW => ?_)
            obtain ⟨⟨x294, rfl, p295⟩, g293⟩ := q292
            clear p295
            have z296 : RF rw_X12_field f0 f291 h0 := rf_fm hTH z143 g293 rh0 rfl
            have hF := FM.tr hF g293 rfl
            exact e_I E hW rfl ⟨⟨_, rfl, trivial⟩, hF, z296⟩ dX12_field_64
    · have q297 : (x26.toInt < 0 ∨ 100000 < x26.toInt) := by omega
      clear p34
      refine lv_aload_n hx hb dX12_field_29 rfl (lv_at hl 0 rfl) ?_
      refine lv_iconst (v := (-1)) hx hb dX12_field_30 (by decide) ?_
      refine t_callV (As := [.int (-1)]) (rest := []) E hW (c_X12_told l G cI cJ cZ cD cR cT kp L f30 hW.2.2.2 _ h0 (-1) rh0) rh0 (by decide) rfl wk_X12_told tw_1557 rfl ⟨Nat.le_of_ble_eq_true rfl, Nat.le_of_ble_eq_true rfl⟩ ⟨rfl, rfl⟩ hl.1 rfl (Nat.le_of_ble_eq_true rfl) dX12_field_31 ⟨Nat.le_of_ble_eq_true rfl, Nat.le_of_ble_eq_true rfl⟩ (fun v298 f299 H locs q300 hW => ?_)
      obtain ⟨⟨x302, rfl, p303⟩, g301⟩ := q300
      clear p303
      have z304 : RF rw_X12_field f0 f299 h0 := rf_fm hTH z35 g301 rh0 rfl
      have hF := FM.tr hF g301 rfl
      exact e_I E hW rfl ⟨⟨_, rfl, trivial⟩, hF, z304⟩ dX12_field_34
def ms_X12_kinOf : List (Nat × Nat) := []
def po_X12_kinOf (kp : Nat → Nat) (L : List Nat) (f0 : Nat → va_E) (h0 : Nat) (u1 : Int32) : Option Value → (Nat → va_E) → Prop := fun v f => (∃ r : Int32, v = some (.int r) ∧ (True)) ∧ FM kp L ms_X12_kinOf f0 f
set_option maxHeartbeats 4000000 in
set_option maxRecDepth 100000 in
theorem c_X12_kinOf (l : Launch) (G : va_G) (cI cJ cZ cD cR cT : ClassId) (kp : Nat → Nat) (L : List Nat) (f0 : Nat → va_E) (hTH : TH cI cJ cZ cD cR cT kp L f0) (sz : Nat) (h0 : Nat) (u1 : Int32) (rh0 : RK kp L h0 12) (pu1 : (0 : Int) ≤ u1.toInt ∧ u1.toInt ≤ 39) : Met l yX12_kinOf (Cond.code yX12_kinOf cX12_kinOf 4 (some .int) :: wTab) ({ frames := 2, cells := 0, slots := 0, locals := 60 }) (va_Pc [.ref h0, .int u1] (PreW G (tys6 cI cJ cZ cD cR cT) (va_pl L f0) sz)) (QT (po_X12_kinOf kp L f0 h0 u1) G cI cJ cZ cD cR cT (va_A (va_pl L f0) sz) kp L) 0 0 (va_A (va_pl L f0) sz) := by
  refine metT (by decide) (Nat.le_of_ble_eq_true rfl) hTH ?_
  intro p e s m below meth c A ls E hW hl
  obtain ⟨hx, hb, -, hml, hown, hts, -, -, -⟩ := id E
  have hF : FM kp L ms_X12_kinOf f0 f0 := FM.rf
  have hl : lv_has ls 4 [(0, .ref h0), (1, .int u1)] := hl
  obtain ⟨pR, mR⟩ : ∃ x : Nat, oR (f0 h0) 2 = x := ⟨_, rfl⟩
  have rR : RK kp L pR 822 := by rw [← mR]; exact th_ref hTH rh0 (by decide) (by decide) rfl
  refine lv_iconst (v := 0) hx hb dX12_kinOf_0 (by decide) ?_
  refine lv_istore_n (lv' := [(2, .int 0), (0, .ref h0), (1, .int u1)]) hx hb dX12_kinOf_1 rfl hl (by decide) rfl (fun ls hl => ?_)
  refine lv_iconst (v := 0) hx hb dX12_kinOf_2 (by decide) ?_
  refine lv_istore_n (lv' := [(3, .int 0), (2, .int 0), (0, .ref h0), (1, .int u1)]) hx hb dX12_kinOf_3 rfl hl (by decide) rfl (fun ls hl => ?_)
  have L6721 : ∀ (n : Nat), ∀ (f6716 : Nat → va_E) (y6718 : Int32) (y6720 : Int32) (m6717 : oR (f6716 h0) 2 = pR) (b6719 : (0 : Int) ≤ y6718.toInt ∧ y6718.toInt ≤ 40) (hm : (41 : Int) - y6718.toInt ≤ n) (H : Heap) (locs : List Loc) (ls : Array Slot), WS G cI cJ cZ cD cR cT A kp L f6716 s H locs → FM kp L ms_X12_kinOf f0 f6716 → lv_has ls 4 [(3, .int y6718), (2, .int y6720), (0, .ref h0), (1, .int u1)] → W p l e ({ frames := 2, cells := 0, slots := 0, locals := 60 }) s m ([.ref h0, .int u1] : List Value).toArray below meth c H locs 0 0 (MQ below (QT (po_X12_kinOf kp L f0 h0 u1) G cI cJ cZ cD cR cT A kp L) ([.ref h0, .int u1] : List Value).toArray s 0 0 A) (F0 m 4 ls []) := by
    intro n
    induction n with
    | zero =>
      intro f6716 y6718 y6720 m6717 b6719 hm H locs ls hW hF hl
      have hz := i32_b y6718
      exfalso; omega
    | succ n ih =>
      intro f6716 y6718 y6720 m6717 b6719 hm H locs ls hW hF hl
      have ih4 := ih
      refine lv_iload_n hx hb dX12_kinOf_4 rfl (lv_at hl 0 rfl) ?_
      refine lv_aload_n hx hb dX12_kinOf_5 rfl (lv_at hl 2 rfl) ?_
      refine fg_RX12_8 E hW rh0 dX12_kinOf_6 (fun a6722 m6723 r6724 => ?_)
      obtain rfl : pR = a6722 := (m6717).symm.trans m6723
      refine lv_iconst (v := 0) hx hb dX12_kinOf_9 (by decide) ?_
      refine gl_822 E hW rR (by decide) dX12_kinOf_10 (fun y6725 m6726 b6727 => ?_)
      have b6728 := rr_0 (show RowInv _ from b6727) m6726 (by decide)
      refine q_icmp_ge (tgt := 68) hx hb dX12_kinOf_11 (by decide) rfl rfl (fun c6819 => ?_) (fun c6819 => ?_)
      · refine lv_iload_n hx hb dX12_kinOf_68 rfl (lv_at hl 1 rfl) ?_
        exact e_I E hW rfl ⟨⟨_, rfl, trivial⟩, hF⟩ dX12_kinOf_69
      · refine lv_iload_n hx hb dX12_kinOf_14 rfl (lv_at hl 1 rfl) ?_
        refine lv_iload_n hx hb dX12_kinOf_15 rfl (lv_at hl 0 rfl) ?_
        refine lv_iload_n hx hb dX12_kinOf_16 rfl (lv_at hl 3 rfl) ?_
        have J6865 : ∀ (f6860 : Nat → va_E) (y6863 : Int32) (m6861 : oR (f6860 h0) 2 = pR) (m6862 : aI (f6860 pR) (0 : Int32).toNatClampNeg = y6725) (b6864 : (0 : Int) ≤ y6863.toInt ∧ y6863.toInt ≤ 1) (H : Heap) (locs : List Loc) (ls : Array Slot), WS G cI cJ cZ cD cR cT A kp L f6860 s H locs → FM kp L ms_X12_kinOf f0 f6860 → lv_has ls 4 [(3, .int y6718), (2, .int y6720), (0, .ref h0), (1, .int u1)] → W p l e ({ frames := 2, cells := 0, slots := 0, locals := 60 }) s m ([.ref h0, .int u1] : List Value).toArray below meth c H locs 0 0 (MQ below (QT (po_X12_kinOf kp L f0 h0 u1) G cI cJ cZ cD cR cT A kp L) ([.ref h0, .int u1] : List Value).toArray s 0 0 A) (F0 m 60 ls [.int y6863, .int y6720]) := by
          intro f6860 y6863 m6861 m6862 b6864 H locs ls hW hF hl
          refine u_iadd hx hb dX12_kinOf_60 (fun x6866 => ?_)
          refine lv_istore_n (lv' := [(2, .int x6866), (3, .int y6718), (0, .ref h0), (1, .int u1)]) hx hb dX12_kinOf_61 rfl hl (by decide) rfl (fun ls hl => ?_)
          refine q_iinc hx hb dX12_kinOf_62 hl (k := 1) rfl rfl rfl (by omega) (by decide) (fun i6867 ls h6868 hl => ?_)
          have hl : lv_has ls 4 [(3, .int i6867), (2, .int x6866), (0, .ref h0), (1, .int u1)] := hl
          refine lv_goto (tgt := 4) hx hb dX12_kinOf_65 (by decide) ?_
          exact ih4 f6860 i6867 x6866 m6861 (by omega) (by omega) _ _ _ hW hF (lv_sub hl [0, 1, 2, 3] rfl)
        refine q_icmp_eq (tgt := 59) hx hb dX12_kinOf_17 (by decide) rfl rfl (fun c6869 => ?_) (fun c6869 => ?_)
        · refine lv_iconst (v := 0) hx hb dX12_kinOf_59 (by decide) ?_
          exact J6865 f6716 0 m6723 m6726 (by decide) _ _ _ hW hF (lv_sub hl [0, 1, 2, 3] rfl)
        · refine lv_aload_n hx hb dX12_kinOf_20 rfl (lv_at hl 2 rfl) ?_
          refine fg_RX12_8 E hW rh0 dX12_kinOf_21 (fun a6870 m6871 r6872 => ?_)
          obtain rfl : pR = a6870 := (m6723).symm.trans m6871
          refine lv_iload_n hx hb dX12_kinOf_24 rfl (lv_at hl 0 rfl) ?_
          refine t_callS (As := [.int y6718]) (rest := [.ref pR, .int y6720]) E hW (c_X12_personAt l G cI cJ cZ cD cR cT kp L f6716 hW.2.2.2 _ y6718 (by omega)) wk_X12_personAt tw_1572 rfl ⟨Nat.le_of_ble_eq_true rfl, Nat.le_of_ble_eq_true rfl⟩ ⟨rfl, rfl⟩ hl.1 rfl (Nat.le_of_ble_eq_true rfl) dX12_kinOf_25 ⟨Nat.le_of_ble_eq_true rfl, Nat.le_of_ble_eq_true rfl⟩ (fun v6873 f6874 H locs q6875 hW => ?_)
          obtain ⟨⟨x6877, rfl, p6878⟩, g6876⟩ := q6875
          have hF := FM.tr hF g6876 rfl
          refine gl_822 E hW rR ⟨by omega, by omega⟩ dX12_kinOf_28 (fun y6879 m6880 b6881 => ?_)
          refine lv_aload_n hx hb dX12_kinOf_29 rfl (lv_at hl 2 rfl) ?_
          refine fg_RX12_8 E hW rh0 dX12_kinOf_30 (fun a6882 m6883 r6884 => ?_)
          obtain rfl : pR = a6882 := (((fm_R g6876 rh0 rfl).trans m6871)).symm.trans m6883
          refine lv_iload_n hx hb dX12_kinOf_33 rfl (lv_at hl 3 rfl) ?_
          refine t_callS (As := [.int u1]) (rest := [.ref pR, .int y6879, .int y6720]) E hW (c_X12_personAt l G cI cJ cZ cD cR cT kp L f6874 hW.2.2.2 _ u1 (by omega)) wk_X12_personAt tw_1572 rfl ⟨Nat.le_of_ble_eq_true rfl, Nat.le_of_ble_eq_true rfl⟩ ⟨rfl, rfl⟩ hl.1 rfl (Nat.le_of_ble_eq_true rfl) dX12_kinOf_34 ⟨Nat.le_of_ble_eq_true rfl, Nat.le_of_ble_eq_true rfl⟩ (fun v6885 f6886 H locs q6887 hW => ?_)
          obtain ⟨⟨x6889, rfl, p6890⟩, g6888⟩ := q6887
          have m6891 : aI (f6886 pR) (0 : Int32).toNatClampNeg = y6725 := ((congrArg (fun z => aI z (0 : Int32).toNatClampNeg) (fm_A g6888 rR (by decide) rfl)).trans ((congrArg (fun z => aI z (0 : Int32).toNatClampNeg) (fm_A g6876 rR (by decide) rfl)).trans m6726))
          have hF := FM.tr hF g6888 rfl
          refine gl_822 E hW rR ⟨by omega, by omega⟩ dX12_kinOf_37 (fun y6892 m6893 b6894 => ?_)
          refine q_icmp_ne (tgt := 59) hx hb dX12_kinOf_38 (by decide) rfl rfl (fun c6895 => ?_) (fun c6895 => ?_)
          · refine lv_iconst (v := 0) hx hb dX12_kinOf_59 (by decide) ?_
            exact J6865 f6886 0 ((fm_R g6888 rh0 rfl).trans m6883) m6891 (by decide) _ _ _ hW hF (lv_sub hl [0, 1, 2, 3] rfl)
          · refine lv_aload_n hx hb dX12_kinOf_41 rfl (lv_at hl 2 rfl) ?_
            refine fg_RX12_8 E hW rh0 dX12_kinOf_42 (fun a6896 m6897 r6898 => ?_)
            obtain rfl : pR = a6896 := (((fm_R g6888 rh0 rfl).trans m6883)).symm.trans m6897
            refine lv_iload_n hx hb dX12_kinOf_45 rfl (lv_at hl 0 rfl) ?_
            refine t_callS (As := [.int y6718]) (rest := [.ref pR, .int y6720]) E hW (c_X12_personAt l G cI cJ cZ cD cR cT kp L f6886 hW.2.2.2 _ y6718 (by omega)) wk_X12_personAt tw_1572 rfl ⟨Nat.le_of_ble_eq_true rfl, Nat.le_of_ble_eq_true rfl⟩ ⟨rfl, rfl⟩ hl.1 rfl (Nat.le_of_ble_eq_true rfl) dX12_kinOf_46 ⟨Nat.le_of_ble_eq_true rfl, Nat.le_of_ble_eq_true rfl⟩ (fun v6899 f6900 H locs q6901 hW => ?_)
            obtain ⟨⟨x6903, rfl, p6904⟩, g6902⟩ := q6901
            have m6905 : aI (f6900 pR) (x6877 : Int32).toNatClampNeg = y6879 := ((congrArg (fun z => aI z (x6877 : Int32).toNatClampNeg) (fm_A g6902 rR (by decide) rfl)).trans ((congrArg (fun z => aI z (x6877 : Int32).toNatClampNeg) (fm_A g6888 rR (by decide) rfl)).trans m6880))
            have hF := FM.tr hF g6902 rfl
            refine lv_iconst (v := 5) hx hb dX12_kinOf_49 (by decide) ?_
            refine q_iadd (Y := 5) hx hb dX12_kinOf_50 rfl rfl (by omega) (fun x6906 h6907 => ?_)
            refine gl_822 E hW rR ⟨by omega, by omega⟩ dX12_kinOf_51 (fun y6908 m6909 b6910 => ?_)
            refine q_if_ne (tgt := 59) hx hb dX12_kinOf_52 (by decide) rfl (fun c6911 => ?_) (fun c6911 => ?_)
            · refine lv_iconst (v := 0) hx hb dX12_kinOf_59 (by decide) ?_
              exact J6865 f6900 0 ((fm_R g6902 rh0 rfl).trans m6897) ((congrArg (fun z => aI z (0 : Int32).toNatClampNeg) (fm_A g6902 rR (by decide) rfl)).trans m6891) (by decide) _ _ _ hW hF (lv_sub hl [0, 1, 2, 3] rfl)
            · refine lv_iconst (v := 1) hx hb dX12_kinOf_55 (by decide) ?_
              refine lv_goto (tgt := 60) hx hb dX12_kinOf_56 (by decide) ?_
              exact J6865 f6900 1 ((fm_R g6902 rh0 rfl).trans m6897) ((congrArg (fun z => aI z (0 : Int32).toNatClampNeg) (fm_A g6902 rR (by decide) rfl)).trans m6891) (by decide) _ _ _ hW hF (lv_sub hl [0, 1, 2, 3] rfl)
  have hk6912 : (0 : Int32).toInt = 0 := rfl
  have hk6913 : (0 : Int32).toInt = 0 := rfl
  exact L6721 41 f0 0 0 mR (by decide) (by omega) _ _ _ hW hF (lv_sub hl [0, 1, 2, 3] rfl)
def ms_X12_of : List (Nat × Nat) := [(12, 0)]
def po_X12_of (kp : Nat → Nat) (L : List Nat) (f0 : Nat → va_E) (h0 : Nat) (u1 : Int32) (u2 : Int32) : Option Value → (Nat → va_E) → Prop := fun v f => (∃ r : Int32, v = some (.int r) ∧ (True)) ∧ FM kp L ms_X12_of f0 f
set_option maxHeartbeats 4000000 in
set_option maxRecDepth 100000 in
theorem c_X12_of (l : Launch) (G : va_G) (cI cJ cZ cD cR cT : ClassId) (kp : Nat → Nat) (L : List Nat) (f0 : Nat → va_E) (hTH : TH cI cJ cZ cD cR cT kp L f0) (sz : Nat) (h0 : Nat) (u1 : Int32) (u2 : Int32) (rh0 : RK kp L h0 12) : Met l yX12_of (Cond.code yX12_of cX12_of 4 (some .int) :: wTab) ({ frames := 3, cells := 0, slots := 0, locals := 86 }) (va_Pc [.ref h0, .int u1, .int u2] (PreW G (tys6 cI cJ cZ cD cR cT) (va_pl L f0) sz)) (QT (po_X12_of kp L f0 h0 u1 u2) G cI cJ cZ cD cR cT (va_A (va_pl L f0) sz) kp L) 0 0 (va_A (va_pl L f0) sz) := by
  refine metT (by decide) (Nat.le_of_ble_eq_true rfl) hTH ?_
  intro p e s m below meth c A ls E hW hl
  obtain ⟨hx, hb, -, hml, hown, hts, -, -, -⟩ := id E
  have hF : FM kp L ms_X12_of f0 f0 := FM.rf
  have hl : lv_has ls 4 [(0, .ref h0), (1, .int u1), (2, .int u2)] := hl
  obtain ⟨pR, mR⟩ : ∃ x : Nat, oR (f0 h0) 2 = x := ⟨_, rfl⟩
  have rR : RK kp L pR 822 := by rw [← mR]; exact th_ref hTH rh0 (by decide) (by decide) rfl
  refine lv_aload_n hx hb dX12_of_0 rfl (lv_at hl 0 rfl) ?_
  refine lv_iconst (v := 0) hx hb dX12_of_1 (by decide) ?_
  refine fp_RX12_82 E hW rh0 dX12_of_2 (fun f1 H locs e2 n3 g4 hW => ?_)
  have hF := FM.tr hF g4 rfl
  refine lv_aload_n hx hb dX12_of_5 rfl (lv_at hl 0 rfl) ?_
  refine lv_iload_n hx hb dX12_of_6 rfl (lv_at hl 1 rfl) ?_
  refine t_callV (As := [.int u1]) (rest := []) E hW (c_X12_isPerson l G cI cJ cZ cD cR cT kp L f1 hW.2.2.2 _ h0 u1 rh0) rh0 (by decide) rfl wk_X12_isPerson tw_1583 rfl ⟨Nat.le_of_ble_eq_true rfl, Nat.le_of_ble_eq_true rfl⟩ ⟨rfl, rfl⟩ hl.1 rfl (Nat.le_of_ble_eq_true rfl) dX12_of_7 ⟨Nat.le_of_ble_eq_true rfl, Nat.le_of_ble_eq_true rfl⟩ (fun v5 f6 H locs q7 hW => ?_)
  obtain ⟨⟨x9, rfl, p10⟩, g8⟩ := q7
  have hF := FM.tr hF g8 rfl
  refine q_if_ne (tgt := 15) hx hb dX12_of_10 (by decide) rfl (fun c11 => ?_) (fun c11 => ?_)
  · have q12 : 0 ≤ u1.toInt ∧ u1.toInt ≤ 39 := by omega
    clear p10
    refine lv_iload_n hx hb dX12_of_15 rfl (lv_at hl 1 rfl) ?_
    refine t_callS (As := [.int u1]) (rest := []) E hW (c_X12_personAt l G cI cJ cZ cD cR cT kp L f6 hW.2.2.2 _ u1 (by omega)) wk_X12_personAt tw_1572 rfl ⟨Nat.le_of_ble_eq_true rfl, Nat.le_of_ble_eq_true rfl⟩ ⟨rfl, rfl⟩ hl.1 rfl (Nat.le_of_ble_eq_true rfl) dX12_of_16 ⟨Nat.le_of_ble_eq_true rfl, Nat.le_of_ble_eq_true rfl⟩ (fun v13 f14 H locs q15 hW => ?_)
    obtain ⟨⟨x17, rfl, p18⟩, g16⟩ := q15
    have hF := FM.tr hF g16 rfl
    refine lv_istore_n (lv' := [(3, .int x17), (0, .ref h0), (1, .int u1), (2, .int u2)]) hx hb dX12_of_19 rfl hl (by decide) rfl (fun ls hl => ?_)
    refine lv_iload_n hx hb dX12_of_20 rfl (lv_at hl 3 rfl) ?_
    by_cases c19 : u2.toInt = 0
    · refine lv_tableIn (tgt := 60) hx hb dX12_of_21 (by omega) (by omega) (by rw [c19]; rfl) (by decide) ?_
      refine lv_aload_n hx hb dX12_of_60 rfl (lv_at hl 1 rfl) ?_
      refine fg_RX12_8 E hW rh0 dX12_of_61 (fun a20 m21 r22 => ?_)
      obtain rfl : pR = a20 := (((fm_R g16 rh0 rfl).trans ((fm_R g8 rh0 rfl).trans ((fm_R g4 rh0 rfl).trans mR)))).symm.trans m21
      refine lv_iload_n hx hb dX12_of_64 rfl (lv_at hl 0 rfl) ?_
      refine lv_iconst (v := 5) hx hb dX12_of_65 (by decide) ?_
      refine q_iadd (Y := 5) hx hb dX12_of_66 rfl rfl (by omega) (fun x23 h24 => ?_)
      refine gl_822 E hW rR ⟨by omega, by omega⟩ dX12_of_67 (fun y25 m26 b27 => ?_)
      exact e_I E hW rfl ⟨⟨_, rfl, trivial⟩, hF⟩ dX12_of_68
    by_cases c28 : u2.toInt = 1
    · refine lv_tableIn (tgt := 69) hx hb dX12_of_21 (by omega) (by omega) (by rw [c28]; rfl) (by decide) ?_
      refine lv_aload_n hx hb dX12_of_69 rfl (lv_at hl 1 rfl) ?_
      refine fg_RX12_8 E hW rh0 dX12_of_70 (fun a29 m30 r31 => ?_)
      obtain rfl : pR = a29 := (((fm_R g16 rh0 rfl).trans ((fm_R g8 rh0 rfl).trans ((fm_R g4 rh0 rfl).trans mR)))).symm.trans m30
      refine lv_iload_n hx hb dX12_of_73 rfl (lv_at hl 0 rfl) ?_
      refine lv_iconst (v := 1) hx hb dX12_of_74 (by decide) ?_
      refine q_iadd (Y := 1) hx hb dX12_of_75 rfl rfl (by omega) (fun x32 h33 => ?_)
      refine gl_822 E hW rR ⟨by omega, by omega⟩ dX12_of_76 (fun y34 m35 b36 => ?_)
      exact e_I E hW rfl ⟨⟨_, rfl, trivial⟩, hF⟩ dX12_of_77
    by_cases c37 : u2.toInt = 2
    · refine lv_tableIn (tgt := 78) hx hb dX12_of_21 (by omega) (by omega) (by rw [c37]; rfl) (by decide) ?_
      refine lv_aload_n hx hb dX12_of_78 rfl (lv_at hl 1 rfl) ?_
      refine fg_RX12_8 E hW rh0 dX12_of_79 (fun a38 m39 r40 => ?_)
      obtain rfl : pR = a38 := (((fm_R g16 rh0 rfl).trans ((fm_R g8 rh0 rfl).trans ((fm_R g4 rh0 rfl).trans mR)))).symm.trans m39
      refine lv_iload_n hx hb dX12_of_82 rfl (lv_at hl 0 rfl) ?_
      refine lv_iconst (v := 4) hx hb dX12_of_83 (by decide) ?_
      refine q_iadd (Y := 4) hx hb dX12_of_84 rfl rfl (by omega) (fun x41 h42 => ?_)
      refine gl_822 E hW rR ⟨by omega, by omega⟩ dX12_of_85 (fun y43 m44 b45 => ?_)
      exact e_I E hW rfl ⟨⟨_, rfl, trivial⟩, hF⟩ dX12_of_86
    by_cases c46 : u2.toInt = 3
    · refine lv_tableIn (tgt := 87) hx hb dX12_of_21 (by omega) (by omega) (by rw [c46]; rfl) (by decide) ?_
      refine lv_aload_n hx hb dX12_of_87 rfl (lv_at hl 1 rfl) ?_
      refine fg_RX12_8 E hW rh0 dX12_of_88 (fun a47 m48 r49 => ?_)
      obtain rfl : pR = a47 := (((fm_R g16 rh0 rfl).trans ((fm_R g8 rh0 rfl).trans ((fm_R g4 rh0 rfl).trans mR)))).symm.trans m48
      refine lv_iload_n hx hb dX12_of_91 rfl (lv_at hl 0 rfl) ?_
      refine lv_bipush (v := 6) hx hb dX12_of_92 (by decide) ?_
      refine q_iadd (Y := 6) hx hb dX12_of_94 rfl rfl (by omega) (fun x50 h51 => ?_)
      refine gl_822 E hW rR ⟨by omega, by omega⟩ dX12_of_95 (fun y52 m53 b54 => ?_)
      exact e_I E hW rfl ⟨⟨_, rfl, trivial⟩, hF⟩ dX12_of_96
    by_cases c55 : u2.toInt = 4
    · refine lv_tableIn (tgt := 97) hx hb dX12_of_21 (by omega) (by omega) (by rw [c55]; rfl) (by decide) ?_
      refine lv_aload_n hx hb dX12_of_97 rfl (lv_at hl 1 rfl) ?_
      refine fg_RX12_8 E hW rh0 dX12_of_98 (fun a56 m57 r58 => ?_)
      obtain rfl : pR = a56 := (((fm_R g16 rh0 rfl).trans ((fm_R g8 rh0 rfl).trans ((fm_R g4 rh0 rfl).trans mR)))).symm.trans m57
      refine lv_iload_n hx hb dX12_of_101 rfl (lv_at hl 0 rfl) ?_
      refine lv_bipush (v := 7) hx hb dX12_of_102 (by decide) ?_
      refine q_iadd (Y := 7) hx hb dX12_of_104 rfl rfl (by omega) (fun x59 h60 => ?_)
      refine gl_822 E hW rR ⟨by omega, by omega⟩ dX12_of_105 (fun y61 m62 b63 => ?_)
      exact e_I E hW rfl ⟨⟨_, rfl, trivial⟩, hF⟩ dX12_of_106
    by_cases c64 : u2.toInt = 5
    · refine lv_tableIn (tgt := 107) hx hb dX12_of_21 (by omega) (by omega) (by rw [c64]; rfl) (by decide) ?_
      refine lv_aload_n hx hb dX12_of_107 rfl (lv_at hl 1 rfl) ?_
      refine lv_iload_n hx hb dX12_of_108 rfl (lv_at hl 2 rfl) ?_
      refine t_callV (As := [.int u1]) (rest := []) E hW (c_X12_kinOf l G cI cJ cZ cD cR cT kp L f14 hW.2.2.2 _ h0 u1 rh0 (by omega)) rh0 (by decide) rfl wk_X12_kinOf tw_1631 rfl ⟨Nat.le_of_ble_eq_true rfl, Nat.le_of_ble_eq_true rfl⟩ ⟨rfl, rfl⟩ hl.1 rfl (Nat.le_of_ble_eq_true rfl) dX12_of_109 ⟨Nat.le_of_ble_eq_true rfl, Nat.le_of_ble_eq_true rfl⟩ (fun v65 f66 H locs q67 hW => ?_)
      obtain ⟨⟨x69, rfl, p70⟩, g68⟩ := q67
      clear p70
      have hF := FM.tr hF g68 rfl
      exact e_I E hW rfl ⟨⟨_, rfl, trivial⟩, hF⟩ dX12_of_112
    refine lv_tableOut (tgt := 113) hx hb dX12_of_21 (by omega) (by decide) ?_
    refine lv_iconst (v := (-1)) hx hb dX12_of_113 (by decide) ?_
    exact e_I E hW rfl ⟨⟨_, rfl, trivial⟩, hF⟩ dX12_of_114
  · clear p10
    refine lv_iconst (v := (-1)) hx hb dX12_of_13 (by decide) ?_
    exact e_I E hW rfl ⟨⟨_, rfl, trivial⟩, hF⟩ dX12_of_14
def ms_X12_writOf : List (Nat × Nat) := []
def po_X12_writOf (kp : Nat → Nat) (L : List Nat) (f0 : Nat → va_E) (h0 : Nat) (u1 : Int32) : Option Value → (Nat → va_E) → Prop := fun v f => (∃ r : Int32, v = some (.int r) ∧ ((-1 : Int) ≤ r.toInt ∧ r.toInt ≤ 59)) ∧ FM kp L ms_X12_writOf f0 f
set_option maxHeartbeats 4000000 in
set_option maxRecDepth 100000 in
theorem c_X12_writOf (l : Launch) (G : va_G) (cI cJ cZ cD cR cT : ClassId) (kp : Nat → Nat) (L : List Nat) (f0 : Nat → va_E) (hTH : TH cI cJ cZ cD cR cT kp L f0) (sz : Nat) (h0 : Nat) (u1 : Int32) (rh0 : RK kp L h0 12) (pu1 : (0 : Int) ≤ u1.toInt ∧ u1.toInt ≤ 39) : Met l yX12_writOf (Cond.code yX12_writOf cX12_writOf 4 (some .int) :: wTab) ({ frames := 1, cells := 0, slots := 0, locals := 40 }) (va_Pc [.ref h0, .int u1] (PreW G (tys6 cI cJ cZ cD cR cT) (va_pl L f0) sz)) (QT (po_X12_writOf kp L f0 h0 u1) G cI cJ cZ cD cR cT (va_A (va_pl L f0) sz) kp L) 0 0 (va_A (va_pl L f0) sz) := by
  refine metT (by decide) (Nat.le_of_ble_eq_true rfl) hTH ?_
  intro p e s m below meth c A ls E hW hl
  obtain ⟨hx, hb, -, hml, hown, hts, -, -, -⟩ := id E
  have hF : FM kp L ms_X12_writOf f0 f0 := FM.rf
  have hl : lv_has ls 4 [(0, .ref h0), (1, .int u1)] := hl
  obtain ⟨pR, mR⟩ : ∃ x : Nat, oR (f0 h0) 2 = x := ⟨_, rfl⟩
  have rR : RK kp L pR 822 := by rw [← mR]; exact th_ref hTH rh0 (by decide) (by decide) rfl
  refine lv_iconst (v := (-1)) hx hb dX12_writOf_0 (by decide) ?_
  refine lv_istore_n (lv' := [(2, .int (-1)), (0, .ref h0), (1, .int u1)]) hx hb dX12_writOf_1 rfl hl (by decide) rfl (fun ls hl => ?_)
  refine lv_iconst (v := 0) hx hb dX12_writOf_2 (by decide) ?_
  refine lv_istore_n (lv' := [(3, .int 0), (2, .int (-1)), (0, .ref h0), (1, .int u1)]) hx hb dX12_writOf_3 rfl hl (by decide) rfl (fun ls hl => ?_)
  have L1380 : ∀ (n : Nat), ∀ (y1376 : Int32) (y1378 : Int32) (b1377 : (0 : Int) ≤ y1376.toInt ∧ y1376.toInt ≤ 60) (b1379 : (-1 : Int) ≤ y1378.toInt ∧ y1378.toInt ≤ 59) (hm : (61 : Int) - y1376.toInt ≤ n) (H : Heap) (locs : List Loc) (ls : Array Slot), WS G cI cJ cZ cD cR cT A kp L f0 s H locs → FM kp L ms_X12_writOf f0 f0 → lv_has ls 4 [(3, .int y1376), (2, .int y1378), (0, .ref h0), (1, .int u1)] → W p l e ({ frames := 1, cells := 0, slots := 0, locals := 40 }) s m ([.ref h0, .int u1] : List Value).toArray below meth c H locs 0 0 (MQ below (QT (po_X12_writOf kp L f0 h0 u1) G cI cJ cZ cD cR cT A kp L) ([.ref h0, .int u1] : List Value).toArray s 0 0 A) (F0 m 4 ls []) := by
    intro n
    induction n with
    | zero =>
      intro y1376 y1378 b1377 b1379 hm H locs ls hW hF hl
      have hz := i32_b y1376
      exfalso; omega
    | succ n ih =>
      intro y1376 y1378 b1377 b1379 hm H locs ls hW hF hl
      have ih4 := ih
      refine lv_iload_n hx hb dX12_writOf_4 rfl (lv_at hl 0 rfl) ?_
      refine lv_aload_n hx hb dX12_writOf_5 rfl (lv_at hl 2 rfl) ?_
      refine fg_RX12_8 E hW rh0 dX12_writOf_6 (fun a1381 m1382 r1383 => ?_)
      obtain rfl : pR = a1381 := (mR).symm.trans m1382
      refine lv_iconst (v := 4) hx hb dX12_writOf_9 (by decide) ?_
      refine gl_822 E hW rR (by decide) dX12_writOf_10 (fun y1384 m1385 b1386 => ?_)
      have b1387 := rr_4 (show RowInv _ from b1386) m1385 (by decide)
      refine q_icmp_ge (tgt := 61) hx hb dX12_writOf_11 (by decide) rfl rfl (fun c1431 => ?_) (fun c1431 => ?_)
      · refine lv_iload_n hx hb dX12_writOf_61 rfl (lv_at hl 1 rfl) ?_
        exact e_I E hW rfl ⟨⟨_, rfl, (by first | omega | trivial)⟩, hF⟩ dX12_writOf_62
      · refine lv_aload_n hx hb dX12_writOf_14 rfl (lv_at hl 2 rfl) ?_
        refine fg_RX12_8 E hW rh0 dX12_writOf_15 (fun a1432 m1433 r1434 => ?_)
        obtain rfl : pR = a1432 := (m1382).symm.trans m1433
        refine lv_sipush (v := 684) hx hb dX12_writOf_18 (by decide) ?_
        refine lv_bipush (v := 6) hx hb dX12_writOf_21 (by decide) ?_
        refine lv_iload_n hx hb dX12_writOf_23 rfl (lv_at hl 0 rfl) ?_
        refine q_imul (X := 6) hx hb dX12_writOf_24 rfl rfl (by omega) (fun x1435 h1436 => ?_)
        refine q_iadd (X := 684) hx hb dX12_writOf_25 rfl rfl (by omega) (fun x1437 h1438 => ?_)
        refine gl_822 E hW rR ⟨by omega, by omega⟩ dX12_writOf_26 (fun y1439 m1440 b1441 => ?_)
        have b1442 := rr_wfld (show RowInv _ from b1441) m1440 (by omega)
        refine lv_iload_n hx hb dX12_writOf_27 rfl (lv_at hl 3 rfl) ?_
        have J1458 : ∀ (y1456 : Int32) (b1457 : (-1 : Int) ≤ y1456.toInt ∧ y1456.toInt ≤ 59) (H : Heap) (locs : List Loc) (ls : Array Slot), WS G cI cJ cZ cD cR cT A kp L f0 s H locs → FM kp L ms_X12_writOf f0 f0 → lv_has ls 4 [(3, .int y1376), (2, .int y1378), (0, .ref h0), (1, .int u1)] → W p l e ({ frames := 1, cells := 0, slots := 0, locals := 40 }) s m ([.ref h0, .int u1] : List Value).toArray below meth c H locs 0 0 (MQ below (QT (po_X12_writOf kp L f0 h0 u1) G cI cJ cZ cD cR cT A kp L) ([.ref h0, .int u1] : List Value).toArray s 0 0 A) (F0 m 54 ls [.int y1456]) := by
          intro y1456 b1457 H locs ls hW hF hl
          refine lv_istore_n (lv' := [(2, .int y1456), (3, .int y1376), (0, .ref h0), (1, .int u1)]) hx hb dX12_writOf_54 rfl hl (by decide) rfl (fun ls hl => ?_)
          refine q_iinc hx hb dX12_writOf_55 hl (k := 1) rfl rfl rfl (by omega) (by decide) (fun i1459 ls h1460 hl => ?_)
          have hl : lv_has ls 4 [(3, .int i1459), (2, .int y1456), (0, .ref h0), (1, .int u1)] := hl
          refine lv_goto (tgt := 4) hx hb dX12_writOf_58 (by decide) ?_
          exact ih4 i1459 y1456 (by omega) (by omega) (by omega) _ _ _ hW hF (lv_sub hl [0, 1, 2, 3] rfl)
        refine q_icmp_ne (tgt := 53) hx hb dX12_writOf_28 (by decide) rfl rfl (fun c1461 => ?_) (fun c1461 => ?_)
        · refine lv_iload_n hx hb dX12_writOf_53 rfl (lv_at hl 1 rfl) ?_
          exact J1458 y1378 (by omega) _ _ _ hW hF (lv_sub hl [0, 1, 2, 3] rfl)
        · refine lv_aload_n hx hb dX12_writOf_31 rfl (lv_at hl 2 rfl) ?_
          refine fg_RX12_8 E hW rh0 dX12_writOf_32 (fun a1462 m1463 r1464 => ?_)
          obtain rfl : pR = a1462 := (m1433).symm.trans m1463
          refine lv_sipush (v := 684) hx hb dX12_writOf_35 (by decide) ?_
          refine lv_bipush (v := 6) hx hb dX12_writOf_38 (by decide) ?_
          refine lv_iload_n hx hb dX12_writOf_40 rfl (lv_at hl 0 rfl) ?_
          refine q_imul (X := 6) hx hb dX12_writOf_41 rfl rfl (by omega) (fun x1465 h1466 => ?_)
          refine q_iadd (X := 684) hx hb dX12_writOf_42 rfl rfl (by omega) (fun x1467 h1468 => ?_)
          refine lv_iconst (v := 5) hx hb dX12_writOf_43 (by decide) ?_
          refine q_iadd (Y := 5) hx hb dX12_writOf_44 rfl rfl (by omega) (fun x1469 h1470 => ?_)
          refine gl_822 E hW rR ⟨by omega, by omega⟩ dX12_writOf_45 (fun y1471 m1472 b1473 => ?_)
          refine q_if_ne (tgt := 53) hx hb dX12_writOf_46 (by decide) rfl (fun c1474 => ?_) (fun c1474 => ?_)
          · refine lv_iload_n hx hb dX12_writOf_53 rfl (lv_at hl 1 rfl) ?_
            exact J1458 y1378 (by omega) _ _ _ hW hF (lv_sub hl [0, 1, 2, 3] rfl)
          · refine lv_iload_n hx hb dX12_writOf_49 rfl (lv_at hl 0 rfl) ?_
            refine lv_goto (tgt := 54) hx hb dX12_writOf_50 (by decide) ?_
            exact J1458 y1376 (by omega) _ _ _ hW hF (lv_sub hl [0, 1, 2, 3] rfl)
  have hk1475 : (0 : Int32).toInt = 0 := rfl
  have hk1476 : ((-1) : Int32).toInt = -1 := rfl
  exact L1380 61 0 (-1) (by decide) (by decide) (by omega) _ _ _ hW hF (lv_sub hl [0, 1, 2, 3] rfl)
def ms_X12_owner : List (Nat × Nat) := [(12, 0)]
def po_X12_owner (kp : Nat → Nat) (L : List Nat) (f0 : Nat → va_E) (h0 : Nat) (u1 : Int32) (u2 : Int32) : Option Value → (Nat → va_E) → Prop := fun v f => (∃ r : Int32, v = some (.int r) ∧ (True)) ∧ FM kp L ms_X12_owner f0 f
set_option maxHeartbeats 4000000 in
set_option maxRecDepth 100000 in
theorem c_X12_owner (l : Launch) (G : va_G) (cI cJ cZ cD cR cT : ClassId) (kp : Nat → Nat) (L : List Nat) (f0 : Nat → va_E) (hTH : TH cI cJ cZ cD cR cT kp L f0) (sz : Nat) (h0 : Nat) (u1 : Int32) (u2 : Int32) (rh0 : RK kp L h0 12) : Met l yX12_owner (Cond.code yX12_owner cX12_owner 3 (some .int) :: wTab) ({ frames := 3, cells := 0, slots := 0, locals := 86 }) (va_Pc [.ref h0, .int u1, .int u2] (PreW G (tys6 cI cJ cZ cD cR cT) (va_pl L f0) sz)) (QT (po_X12_owner kp L f0 h0 u1 u2) G cI cJ cZ cD cR cT (va_A (va_pl L f0) sz) kp L) 0 0 (va_A (va_pl L f0) sz) := by
  refine metT (by decide) (Nat.le_of_ble_eq_true rfl) hTH ?_
  intro p e s m below meth c A ls E hW hl
  obtain ⟨hx, hb, -, hml, hown, hts, -, -, -⟩ := id E
  have hF : FM kp L ms_X12_owner f0 f0 := FM.rf
  have hl : lv_has ls 3 [(0, .ref h0), (1, .int u1), (2, .int u2)] := hl
  obtain ⟨pR, mR⟩ : ∃ x : Nat, oR (f0 h0) 2 = x := ⟨_, rfl⟩
  have rR : RK kp L pR 822 := by rw [← mR]; exact th_ref hTH rh0 (by decide) (by decide) rfl
  refine lv_aload_n hx hb dX12_owner_0 rfl (lv_at hl 0 rfl) ?_
  refine lv_iconst (v := 0) hx hb dX12_owner_1 (by decide) ?_
  refine fp_RX12_82 E hW rh0 dX12_owner_2 (fun f1 H locs e2 n3 g4 hW => ?_)
  have hF := FM.tr hF g4 rfl
  refine lv_aload_n hx hb dX12_owner_5 rfl (lv_at hl 0 rfl) ?_
  refine lv_iload_n hx hb dX12_owner_6 rfl (lv_at hl 1 rfl) ?_
  refine t_callV (As := [.int u1]) (rest := []) E hW (c_X12_isEstate l G cI cJ cZ cD cR cT kp L f1 hW.2.2.2 _ h0 u1 rh0) rh0 (by decide) rfl wk_X12_isEstate tw_1620 rfl ⟨Nat.le_of_ble_eq_true rfl, Nat.le_of_ble_eq_true rfl⟩ ⟨rfl, rfl⟩ hl.1 rfl (Nat.le_of_ble_eq_true rfl) dX12_owner_7 ⟨Nat.le_of_ble_eq_true rfl, Nat.le_of_ble_eq_true rfl⟩ (fun v5 f6 H locs q7 hW => ?_)
  obtain ⟨⟨x9, rfl, p10⟩, g8⟩ := q7
  have hF := FM.tr hF g8 rfl
  have J43 : ∀ (f39 : Nat → va_E) (y42 : Int32) (m40 : oI (f39 h0) 0 = 0) (m41 : oR (f39 h0) 2 = pR) (H : Heap) (locs : List Loc) (ls : Array Slot), WS G cI cJ cZ cD cR cT A kp L f39 s H locs → FM kp L ms_X12_owner f0 f39 → lv_has ls 3 [(0, .ref h0), (1, .int u1), (2, .int u2)] → W p l e ({ frames := 3, cells := 0, slots := 0, locals := 86 }) s m ([.ref h0, .int u1, .int u2] : List Value).toArray below meth c H locs 0 0 (MQ below (QT (po_X12_owner kp L f0 h0 u1 u2) G cI cJ cZ cD cR cT A kp L) ([.ref h0, .int u1, .int u2] : List Value).toArray s 0 0 A) (F0 m 53 ls [.int y42]) := by
    intro f39 y42 m40 m41 H locs ls hW hF hl
    exact e_I E hW rfl ⟨⟨_, rfl, trivial⟩, hF⟩ dX12_owner_53
  refine q_if_ne (tgt := 17) hx hb dX12_owner_10 (by decide) rfl (fun c44 => ?_) (fun c44 => ?_)
  · have q45 : 0 ≤ u1.toInt ∧ u1.toInt ≤ 7 := by omega
    clear p10
    refine lv_iload_n hx hb dX12_owner_17 rfl (lv_at hl 2 rfl) ?_
    refine q_if_ne (tgt := 33) hx hb dX12_owner_18 (by decide) rfl (fun c46 => ?_) (fun c46 => ?_)
    · refine lv_iload_n hx hb dX12_owner_33 rfl (lv_at hl 2 rfl) ?_
      refine lv_iconst (v := 1) hx hb dX12_owner_34 (by decide) ?_
      refine q_icmp_ne (Y := 1) (tgt := 52) hx hb dX12_owner_35 (by decide) rfl rfl (fun c47 => ?_) (fun c47 => ?_)
      · refine lv_iconst (v := (-1)) hx hb dX12_owner_52 (by decide) ?_
        exact J43 f6 (-1) ((fm_I g8 rh0 rfl).trans e2) ((fm_R g8 rh0 rfl).trans ((fm_R g4 rh0 rfl).trans mR)) _ _ _ hW hF (lv_sub hl [0, 1, 2] rfl)
      · refine lv_aload_n hx hb dX12_owner_38 rfl (lv_at hl 0 rfl) ?_
        refine fg_RX12_8 E hW rh0 dX12_owner_39 (fun a48 m49 r50 => ?_)
        obtain rfl : pR = a48 := (((fm_R g8 rh0 rfl).trans ((fm_R g4 rh0 rfl).trans mR))).symm.trans m49
        refine lv_iload_n hx hb dX12_owner_42 rfl (lv_at hl 1 rfl) ?_
        refine t_callS (As := [.int u1]) (rest := [.ref pR]) E hW (c_X12_estateAt l G cI cJ cZ cD cR cT kp L f6 hW.2.2.2 _ u1 (by omega)) wk_X12_estateAt tw_1611 rfl ⟨Nat.le_of_ble_eq_true rfl, Nat.le_of_ble_eq_true rfl⟩ ⟨rfl, rfl⟩ hl.1 rfl (Nat.le_of_ble_eq_true rfl) dX12_owner_43 ⟨Nat.le_of_ble_eq_true rfl, Nat.le_of_ble_eq_true rfl⟩ (fun v51 f52 H locs q53 hW => ?_)
        obtain ⟨⟨x55, rfl, p56⟩, g54⟩ := q53
        have hF := FM.tr hF g54 rfl
        refine lv_iconst (v := 2) hx hb dX12_owner_46 (by decide) ?_
        refine q_iadd (Y := 2) hx hb dX12_owner_47 rfl rfl (by omega) (fun x57 h58 => ?_)
        refine gl_822 E hW rR ⟨by omega, by omega⟩ dX12_owner_48 (fun y59 m60 b61 => ?_)
        refine lv_goto (tgt := 53) hx hb dX12_owner_49 (by decide) ?_
        exact J43 f52 y59 ((fm_I g54 rh0 rfl).trans ((fm_I g8 rh0 rfl).trans e2)) ((fm_R g54 rh0 rfl).trans m49) _ _ _ hW hF (lv_sub hl [0, 1, 2] rfl)
    · refine lv_aload_n hx hb dX12_owner_21 rfl (lv_at hl 0 rfl) ?_
      refine fg_RX12_8 E hW rh0 dX12_owner_22 (fun a62 m63 r64 => ?_)
      obtain rfl : pR = a62 := (((fm_R g8 rh0 rfl).trans ((fm_R g4 rh0 rfl).trans mR))).symm.trans m63
      refine lv_iload_n hx hb dX12_owner_25 rfl (lv_at hl 1 rfl) ?_
      refine t_callS (As := [.int u1]) (rest := [.ref pR]) E hW (c_X12_estateAt l G cI cJ cZ cD cR cT kp L f6 hW.2.2.2 _ u1 (by omega)) wk_X12_estateAt tw_1611 rfl ⟨Nat.le_of_ble_eq_true rfl, Nat.le_of_ble_eq_true rfl⟩ ⟨rfl, rfl⟩ hl.1 rfl (Nat.le_of_ble_eq_true rfl) dX12_owner_26 ⟨Nat.le_of_ble_eq_true rfl, Nat.le_of_ble_eq_true rfl⟩ (fun v65 f66 H locs q67 hW => ?_)
      obtain ⟨⟨x69, rfl, p70⟩, g68⟩ := q67
      have hF := FM.tr hF g68 rfl
      refine gl_822 E hW rR ⟨by omega, by omega⟩ dX12_owner_29 (fun y71 m72 b73 => ?_)
      refine lv_goto (tgt := 53) hx hb dX12_owner_30 (by decide) ?_
      exact J43 f66 y71 ((fm_I g68 rh0 rfl).trans ((fm_I g8 rh0 rfl).trans e2)) ((fm_R g68 rh0 rfl).trans m63) _ _ _ hW hF (lv_sub hl [0, 1, 2] rfl)
  · clear p10
    refine lv_iconst (v := (-1)) hx hb dX12_owner_13 (by decide) ?_
    refine lv_goto (tgt := 53) hx hb dX12_owner_14 (by decide) ?_
    exact J43 f6 (-1) ((fm_I g8 rh0 rfl).trans e2) ((fm_R g8 rh0 rfl).trans ((fm_R g4 rh0 rfl).trans mR)) _ _ _ hW hF (lv_sub hl [0, 1, 2] rfl)
def ms_X12_fund : List (Nat × Nat) := [(12, 0)]
def po_X12_fund (kp : Nat → Nat) (L : List Nat) (f0 : Nat → va_E) (h0 : Nat) : Option Value → (Nat → va_E) → Prop := fun v f => (∃ r : Int32, v = some (.int r) ∧ (True)) ∧ FM kp L ms_X12_fund f0 f
set_option maxHeartbeats 4000000 in
set_option maxRecDepth 100000 in
theorem c_X12_fund (l : Launch) (G : va_G) (cI cJ cZ cD cR cT : ClassId) (kp : Nat → Nat) (L : List Nat) (f0 : Nat → va_E) (hTH : TH cI cJ cZ cD cR cT kp L f0) (sz : Nat) (h0 : Nat) (rh0 : RK kp L h0 12) : Met l yX12_fund (Cond.code yX12_fund cX12_fund 1 (some .int) :: wTab) ({ frames := 1, cells := 0, slots := 0, locals := 40 }) (va_Pc [.ref h0] (PreW G (tys6 cI cJ cZ cD cR cT) (va_pl L f0) sz)) (QT (po_X12_fund kp L f0 h0) G cI cJ cZ cD cR cT (va_A (va_pl L f0) sz) kp L) 0 0 (va_A (va_pl L f0) sz) := by
  refine metT (by decide) (Nat.le_of_ble_eq_true rfl) hTH ?_
  intro p e s m below meth c A ls E hW hl
  obtain ⟨hx, hb, -, hml, hown, hts, -, -, -⟩ := id E
  have hF : FM kp L ms_X12_fund f0 f0 := FM.rf
  have hl : lv_has ls 1 [(0, .ref h0)] := hl
  obtain ⟨pR, mR⟩ : ∃ x : Nat, oR (f0 h0) 2 = x := ⟨_, rfl⟩
  have rR : RK kp L pR 822 := by rw [← mR]; exact th_ref hTH rh0 (by decide) (by decide) rfl
  refine lv_aload_n hx hb dX12_fund_0 rfl (lv_at hl 0 rfl) ?_
  refine lv_iconst (v := 0) hx hb dX12_fund_1 (by decide) ?_
  refine fp_RX12_82 E hW rh0 dX12_fund_2 (fun f1 H locs e2 n3 g4 hW => ?_)
  have hF := FM.tr hF g4 rfl
  refine lv_aload_n hx hb dX12_fund_5 rfl (lv_at hl 0 rfl) ?_
  refine fg_RX12_8 E hW rh0 dX12_fund_6 (fun a5 m6 r7 => ?_)
  obtain rfl : pR = a5 := (((fm_R g4 rh0 rfl).trans mR)).symm.trans m6
  refine lv_bipush (v := 9) hx hb dX12_fund_9 (by decide) ?_
  refine gl_822 E hW rR (by decide) dX12_fund_11 (fun y8 m9 b10 => ?_)
  exact e_I E hW rfl ⟨⟨_, rfl, trivial⟩, hF⟩ dX12_fund_12
def rw_X12_price : List (Nat × Nat) := [(1182, 1581)]
def ms_X12_price : List (Nat × Nat) := [(12, 0), (12, 1), (822, 0)]
def po_X12_price (kp : Nat → Nat) (L : List Nat) (f0 : Nat → va_E) (h0 : Nat) (u1 : Int32) (u2 : Int32) : Option Value → (Nat → va_E) → Prop := fun v f => (∃ r : Int32, v = some (.int r) ∧ (True)) ∧ FM kp L ms_X12_price f0 f ∧ (RF rw_X12_price f0 f h0)
set_option maxHeartbeats 4000000 in
set_option maxRecDepth 100000 in
theorem c_X12_price (l : Launch) (G : va_G) (cI cJ cZ cD cR cT : ClassId) (kp : Nat → Nat) (L : List Nat) (f0 : Nat → va_E) (hTH : TH cI cJ cZ cD cR cT kp L f0) (sz : Nat) (h0 : Nat) (u1 : Int32) (u2 : Int32) (rh0 : RK kp L h0 12) : Met l yX12_price (Cond.code yX12_price cX12_price 3 (some .int) :: wTab) ({ frames := 3, cells := 0, slots := 0, locals := 85 }) (va_Pc [.ref h0, .int u1, .int u2] (PreW G (tys6 cI cJ cZ cD cR cT) (va_pl L f0) sz)) (QT (po_X12_price kp L f0 h0 u1 u2) G cI cJ cZ cD cR cT (va_A (va_pl L f0) sz) kp L) 0 0 (va_A (va_pl L f0) sz) := by
  refine metT (by decide) (Nat.le_of_ble_eq_true rfl) hTH ?_
  intro p e s m below meth c A ls E hW hl
  obtain ⟨hx, hb, -, hml, hown, hts, -, -, -⟩ := id E
  have hF : FM kp L ms_X12_price f0 f0 := FM.rf
  have hl : lv_has ls 3 [(0, .ref h0), (1, .int u1), (2, .int u2)] := hl
  obtain ⟨pR, mR⟩ : ∃ x : Nat, oR (f0 h0) 2 = x := ⟨_, rfl⟩
  have rR : RK kp L pR 822 := by rw [← mR]; exact th_ref hTH rh0 (by decide) (by decide) rfl
  refine lv_aload_n hx hb dX12_price_0 rfl (lv_at hl 0 rfl) ?_
  refine lv_iconst (v := 0) hx hb dX12_price_1 (by decide) ?_
  refine fp_RX12_82 E hW rh0 dX12_price_2 (fun f1 H locs e2 n3 g4 hW => ?_)
  have z5 : RF rw_X12_price f0 f1 h0 := rf_fm hTH rf_rf g4 rh0 rfl
  have hF := FM.tr hF g4 rfl
  refine lv_iload_n hx hb dX12_price_5 rfl (lv_at hl 1 rfl) ?_
  refine t_callS (As := [.int u1]) (rest := []) E hW (c_X12_isWeek l G cI cJ cZ cD cR cT kp L f1 hW.2.2.2 _ u1) wk_X12_isWeek tw_1719 rfl ⟨Nat.le_of_ble_eq_true rfl, Nat.le_of_ble_eq_true rfl⟩ ⟨rfl, rfl⟩ hl.1 rfl (Nat.le_of_ble_eq_true rfl) dX12_price_6 ⟨Nat.le_of_ble_eq_true rfl, Nat.le_of_ble_eq_true rfl⟩ (fun v6 f7 H locs q8 hW => ?_)
  obtain ⟨⟨x10, rfl, p11⟩, g9⟩ := q8
  have z12 : RF rw_X12_price f0 f7 h0 := rf_fm hTH z5 g9 rh0 rfl
  have hF := FM.tr hF g9 rfl
  refine q_if_eq (tgt := 24) hx hb dX12_price_9 (by decide) rfl (fun c13 => ?_) (fun c13 => ?_)
  · have q14 : (u1.toInt < 0 ∨ 399 < u1.toInt) := by omega
    clear p11
    refine lv_aload_n hx hb dX12_price_24 rfl (lv_at hl 0 rfl) ?_
    refine lv_iconst (v := (-1)) hx hb dX12_price_25 (by decide) ?_
    refine t_callV (As := [.int (-1)]) (rest := []) E hW (c_X12_told l G cI cJ cZ cD cR cT kp L f7 hW.2.2.2 _ h0 (-1) rh0) rh0 (by decide) rfl wk_X12_told tw_1557 rfl ⟨Nat.le_of_ble_eq_true rfl, Nat.le_of_ble_eq_true rfl⟩ ⟨rfl, rfl⟩ hl.1 rfl (Nat.le_of_ble_eq_true rfl) dX12_price_26 ⟨Nat.le_of_ble_eq_true rfl, Nat.le_of_ble_eq_true rfl⟩ (fun v15 f16 H locs q17 hW => ?_)
    obtain ⟨⟨x19, rfl, p20⟩, g18⟩ := q17
    clear p20
    have z21 : RF rw_X12_price f0 f16 h0 := rf_fm hTH z12 g18 rh0 rfl
    have hF := FM.tr hF g18 rfl
    exact e_I E hW rfl ⟨⟨_, rfl, trivial⟩, hF, z21⟩ dX12_price_29
  · have q22 : 0 ≤ u1.toInt ∧ u1.toInt ≤ 399 := by omega
    clear p11
    refine lv_iload_n hx hb dX12_price_12 rfl (lv_at hl 2 rfl) ?_
    refine q_i2l hx hb dX12_price_13 rfl (fun x23 h24 => ?_)
    have hb25 : -2147483648 ≤ x23.toInt ∧ x23.toInt ≤ 2147483647 := by have := i32_b u2; omega
    refine lv_lconst (v := 0) hx hb dX12_price_14 (by decide) ?_
    refine lv_ldc2 (v := 10000) hx hb hown (hts _ tw_1723) dX12_price_15 ?_
    refine t_callS (As := [.long x23, .long 0, .long 10000]) (rest := []) E hW (c_X12_in l G cI cJ cZ cD cR cT kp L f7 hW.2.2.2 _ x23 0 10000) wk_X12_in tw_1554 rfl ⟨Nat.le_of_ble_eq_true rfl, Nat.le_of_ble_eq_true rfl⟩ ⟨rfl, rfl⟩ hl.1 rfl (Nat.le_of_ble_eq_true rfl) dX12_price_18 ⟨Nat.le_of_ble_eq_true rfl, Nat.le_of_ble_eq_true rfl⟩ (fun v26 f27 H locs q28 hW => ?_)
    obtain ⟨⟨x30, rfl, p31⟩, g29⟩ := q28
    have p31 : (x30.toInt = 1 ∧ 0 ≤ x23.toInt ∧ x23.toInt ≤ 10000) ∨ (x30.toInt = 0 ∧ (x23.toInt < 0 ∨ 10000 < x23.toInt)) := p31
    have z32 : RF rw_X12_price f0 f27 h0 := rf_fm hTH z12 g29 rh0 rfl
    have hF := FM.tr hF g29 rfl
    refine q_if_ne (tgt := 30) hx hb dX12_price_21 (by decide) rfl (fun c33 => ?_) (fun c33 => ?_)
    · have q34 : 0 ≤ x23.toInt ∧ x23.toInt ≤ 10000 := by omega
      clear p31
      refine lv_aload_n hx hb dX12_price_30 rfl (lv_at hl 0 rfl) ?_
      refine fg_RX12_8 E hW rh0 dX12_price_31 (fun a35 m36 r37 => ?_)
      obtain rfl : pR = a35 := (((fm_R g29 rh0 rfl).trans ((fm_R g9 rh0 rfl).trans ((fm_R g4 rh0 rfl).trans mR)))).symm.trans m36
      refine lv_sipush (v := 1182) hx hb dX12_price_34 (by decide) ?_
      refine lv_iload_n hx hb dX12_price_37 rfl (lv_at hl 1 rfl) ?_
      refine q_iadd (X := 1182) hx hb dX12_price_38 rfl rfl (by omega) (fun x38 h39 => ?_)
      refine lv_iload_n hx hb dX12_price_39 rfl (lv_at hl 2 rfl) ?_
      refine lv_iconst (v := 1) hx hb dX12_price_40 (by decide) ?_
      refine q_iadd (Y := 1) hx hb dX12_price_41 rfl rfl (by omega) (fun x40 h41 => ?_)
      refine gs_822 E hW rR ⟨by omega, by omega⟩ (fun hc => rr_up hc (by omega) (by omega) (by unfold rbI; omega)) dX12_price_42 (fun f42 H locs e43 n44 g45 hW => ?_)
      have z46 : RF rw_X12_price f0 f42 h0 := rf_st (lo := 1182) (hi := 1581) z32 mR e43 (by omega) rfl
      have hF := FM.tr hF g45 rfl
      refine lv_aload_n hx hb dX12_price_43 rfl (lv_at hl 0 rfl) ?_
      refine lv_iconst (v := 0) hx hb dX12_price_44 (by decide) ?_
      refine t_callV (As := [.int 0]) (rest := []) E hW (c_X12_told l G cI cJ cZ cD cR cT kp L f42 hW.2.2.2 _ h0 0 rh0) rh0 (by decide) rfl wk_X12_told tw_1557 rfl ⟨Nat.le_of_ble_eq_true rfl, Nat.le_of_ble_eq_true rfl⟩ ⟨rfl, rfl⟩ hl.1 rfl (Nat.le_of_ble_eq_true rfl) dX12_price_45 ⟨Nat.le_of_ble_eq_true rfl, Nat.le_of_ble_eq_true rfl⟩ (fun v47 f48 H locs q49 hW => ?_)
      obtain ⟨⟨x51, rfl, p52⟩, g50⟩ := q49
      clear p52
      have z53 : RF rw_X12_price f0 f48 h0 := rf_fm hTH z46 g50 rh0 rfl
      have hF := FM.tr hF g50 rfl
      exact e_I E hW rfl ⟨⟨_, rfl, trivial⟩, hF, z53⟩ dX12_price_48
    · have q54 : (x23.toInt < 0 ∨ 10000 < x23.toInt) := by omega
      clear p31
      refine lv_aload_n hx hb dX12_price_24 rfl (lv_at hl 0 rfl) ?_
      refine lv_iconst (v := (-1)) hx hb dX12_price_25 (by decide) ?_
      refine t_callV (As := [.int (-1)]) (rest := []) E hW (c_X12_told l G cI cJ cZ cD cR cT kp L f27 hW.2.2.2 _ h0 (-1) rh0) rh0 (by decide) rfl wk_X12_told tw_1557 rfl ⟨Nat.le_of_ble_eq_true rfl, Nat.le_of_ble_eq_true rfl⟩ ⟨rfl, rfl⟩ hl.1 rfl (Nat.le_of_ble_eq_true rfl) dX12_price_26 ⟨Nat.le_of_ble_eq_true rfl, Nat.le_of_ble_eq_true rfl⟩ (fun v55 f56 H locs q57 hW => ?_)
      obtain ⟨⟨x59, rfl, p60⟩, g58⟩ := q57
      clear p60
      have z61 : RF rw_X12_price f0 f56 h0 := rf_fm hTH z32 g58 rh0 rfl
      have hF := FM.tr hF g58 rfl
      exact e_I E hW rfl ⟨⟨_, rfl, trivial⟩, hF, z61⟩ dX12_price_29
def ms_X12_priceNow : List (Nat × Nat) := []
def po_X12_priceNow (kp : Nat → Nat) (L : List Nat) (f0 : Nat → va_E) (h0 : Nat) : Option Value → (Nat → va_E) → Prop := fun v f => (∃ r : Int32, v = some (.int r) ∧ (True)) ∧ FM kp L ms_X12_priceNow f0 f
set_option maxHeartbeats 4000000 in
set_option maxRecDepth 100000 in
theorem c_X12_priceNow (l : Launch) (G : va_G) (cI cJ cZ cD cR cT : ClassId) (kp : Nat → Nat) (L : List Nat) (f0 : Nat → va_E) (hTH : TH cI cJ cZ cD cR cT kp L f0) (sz : Nat) (h0 : Nat) (rh0 : RK kp L h0 12) : Met l yX12_priceNow (Cond.code yX12_priceNow cX12_priceNow 3 (some .int) :: wTab) ({ frames := 1, cells := 0, slots := 0, locals := 40 }) (va_Pc [.ref h0] (PreW G (tys6 cI cJ cZ cD cR cT) (va_pl L f0) sz)) (QT (po_X12_priceNow kp L f0 h0) G cI cJ cZ cD cR cT (va_A (va_pl L f0) sz) kp L) 0 0 (va_A (va_pl L f0) sz) := by
  refine metT (by decide) (Nat.le_of_ble_eq_true rfl) hTH ?_
  intro p e s m below meth c A ls E hW hl
  obtain ⟨hx, hb, -, hml, hown, hts, -, -, -⟩ := id E
  have hF : FM kp L ms_X12_priceNow f0 f0 := FM.rf
  have hl : lv_has ls 3 [(0, .ref h0)] := hl
  obtain ⟨pR, mR⟩ : ∃ x : Nat, oR (f0 h0) 2 = x := ⟨_, rfl⟩
  have rR : RK kp L pR 822 := by rw [← mR]; exact th_ref hTH rh0 (by decide) (by decide) rfl
  refine lv_aload_n hx hb dX12_priceNow_0 rfl (lv_at hl 0 rfl) ?_
  refine fg_RX12_161 E hW rh0 dX12_priceNow_1 (fun y1 m2 b3 => ?_)
  refine q_if_eq (tgt := 12) hx hb dX12_priceNow_4 (by decide) rfl (fun c4 => ?_) (fun c4 => ?_)
  · refine lv_bipush (v := 100) hx hb dX12_priceNow_12 (by decide) ?_
    refine lv_istore_n (lv' := [(1, .int 100), (0, .ref h0)]) hx hb dX12_priceNow_14 rfl hl (by decide) rfl (fun ls hl => ?_)
    refine lv_iconst (v := 0) hx hb dX12_priceNow_15 (by decide) ?_
    refine lv_istore_n (lv' := [(2, .int 0), (1, .int 100), (0, .ref h0)]) hx hb dX12_priceNow_16 rfl hl (by decide) rfl (fun ls hl => ?_)
    have L2409 : ∀ (n : Nat), ∀ (y2405 : Int32) (y2407 : Int32) (b2406 : (0 : Int) ≤ y2405.toInt ∧ y2405.toInt ≤ 400) (b2408 : (0 : Int) ≤ y2407.toInt ∧ y2407.toInt ≤ 2147483646) (hm : (401 : Int) - y2405.toInt ≤ n) (H : Heap) (locs : List Loc) (ls : Array Slot), WS G cI cJ cZ cD cR cT A kp L f0 s H locs → FM kp L ms_X12_priceNow f0 f0 → lv_has ls 3 [(2, .int y2405), (1, .int y2407), (0, .ref h0)] → W p l e ({ frames := 1, cells := 0, slots := 0, locals := 40 }) s m ([.ref h0] : List Value).toArray below meth c H locs 0 0 (MQ below (QT (po_X12_priceNow kp L f0 h0) G cI cJ cZ cD cR cT A kp L) ([.ref h0] : List Value).toArray s 0 0 A) (F0 m 17 ls []) := by
      intro n
      induction n with
      | zero =>
        intro y2405 y2407 b2406 b2408 hm H locs ls hW hF hl
        have hz := i32_b y2405
        exfalso; omega
      | succ n ih =>
        intro y2405 y2407 b2406 b2408 hm H locs ls hW hF hl
        have ih17 := ih
        refine lv_iload_n hx hb dX12_priceNow_17 rfl (lv_at hl 0 rfl) ?_
        refine lv_aload_n hx hb dX12_priceNow_18 rfl (lv_at hl 2 rfl) ?_
        refine fg_RX12_8 E hW rh0 dX12_priceNow_19 (fun a2410 m2411 r2412 => ?_)
        obtain rfl : pR = a2410 := (mR).symm.trans m2411
        refine lv_bipush (v := 8) hx hb dX12_priceNow_22 (by decide) ?_
        refine gl_822 E hW rR (by decide) dX12_priceNow_24 (fun y2413 m2414 b2415 => ?_)
        have b2416 := rr_8 (show RowInv _ from b2415) m2414 (by decide)
        refine q_icmp_gt (tgt := 64) hx hb dX12_priceNow_25 (by decide) rfl rfl (fun c2455 => ?_) (fun c2455 => ?_)
        · refine lv_iload_n hx hb dX12_priceNow_64 rfl (lv_at hl 1 rfl) ?_
          exact e_I E hW rfl ⟨⟨_, rfl, trivial⟩, hF⟩ dX12_priceNow_65
        · refine lv_aload_n hx hb dX12_priceNow_28 rfl (lv_at hl 2 rfl) ?_
          refine fg_RX12_8 E hW rh0 dX12_priceNow_29 (fun a2456 m2457 r2458 => ?_)
          obtain rfl : pR = a2456 := (m2411).symm.trans m2457
          refine lv_sipush (v := 1182) hx hb dX12_priceNow_32 (by decide) ?_
          refine lv_iload_n hx hb dX12_priceNow_35 rfl (lv_at hl 0 rfl) ?_
          refine q_iadd (X := 1182) hx hb dX12_priceNow_36 rfl rfl (by omega) (fun x2459 h2460 => ?_)
          refine gl_822 E hW rR ⟨by omega, by omega⟩ dX12_priceNow_37 (fun y2461 m2462 b2463 => ?_)
          have J2478 : ∀ (y2476 : Int32) (b2477 : (0 : Int) ≤ y2476.toInt ∧ y2476.toInt ≤ 2147483646) (H : Heap) (locs : List Loc) (ls : Array Slot), WS G cI cJ cZ cD cR cT A kp L f0 s H locs → FM kp L ms_X12_priceNow f0 f0 → lv_has ls 3 [(2, .int y2405), (1, .int y2407), (0, .ref h0)] → W p l e ({ frames := 1, cells := 0, slots := 0, locals := 40 }) s m ([.ref h0] : List Value).toArray below meth c H locs 0 0 (MQ below (QT (po_X12_priceNow kp L f0 h0) G cI cJ cZ cD cR cT A kp L) ([.ref h0] : List Value).toArray s 0 0 A) (F0 m 57 ls [.int y2476]) := by
            intro y2476 b2477 H locs ls hW hF hl
            refine lv_istore_n (lv' := [(1, .int y2476), (2, .int y2405), (0, .ref h0)]) hx hb dX12_priceNow_57 rfl hl (by decide) rfl (fun ls hl => ?_)
            refine q_iinc hx hb dX12_priceNow_58 hl (k := 1) rfl rfl rfl (by omega) (by decide) (fun i2479 ls h2480 hl => ?_)
            have hl : lv_has ls 3 [(2, .int i2479), (1, .int y2476), (0, .ref h0)] := hl
            refine lv_goto (tgt := 17) hx hb dX12_priceNow_61 (by decide) ?_
            exact ih17 i2479 y2476 (by omega) (by omega) (by omega) _ _ _ hW hF (lv_sub hl [0, 1, 2] rfl)
          refine q_if_le (tgt := 56) hx hb dX12_priceNow_38 (by decide) rfl (fun c2481 => ?_) (fun c2481 => ?_)
          · refine lv_iload_n hx hb dX12_priceNow_56 rfl (lv_at hl 1 rfl) ?_
            exact J2478 y2407 (by omega) _ _ _ hW hF (lv_sub hl [0, 1, 2] rfl)
          · refine lv_aload_n hx hb dX12_priceNow_41 rfl (lv_at hl 2 rfl) ?_
            refine fg_RX12_8 E hW rh0 dX12_priceNow_42 (fun a2482 m2483 r2484 => ?_)
            obtain rfl : pR = a2482 := (m2457).symm.trans m2483
            refine lv_sipush (v := 1182) hx hb dX12_priceNow_45 (by decide) ?_
            refine lv_iload_n hx hb dX12_priceNow_48 rfl (lv_at hl 0 rfl) ?_
            refine q_iadd (X := 1182) hx hb dX12_priceNow_49 rfl rfl (by omega) (fun x2485 h2486 => ?_)
            refine gl_822 E hW rR ⟨by omega, by omega⟩ dX12_priceNow_50 (fun y2487 m2488 b2489 => ?_)
            have m2490 : aI (f0 pR) (x2485 : Int32).toNatClampNeg = y2461 := by rw [show (x2485 : Int32) = x2459 from Int32.toInt_inj.mp (by omega)]; exact m2462
            obtain rfl : y2461 = y2487 := (m2490).symm.trans m2488
            refine lv_iconst (v := 1) hx hb dX12_priceNow_51 (by decide) ?_
            have hb2493 : -2147483648 ≤ y2461.toInt ∧ y2461.toInt ≤ 2147483647 := i32_b y2461
            refine q_isub (Y := 1) hx hb dX12_priceNow_52 rfl rfl (by omega) (fun x2491 h2492 => ?_)
            refine lv_goto (tgt := 57) hx hb dX12_priceNow_53 (by decide) ?_
            exact J2478 x2491 (by omega) _ _ _ hW hF (lv_sub hl [0, 1, 2] rfl)
    have hk2494 : (0 : Int32).toInt = 0 := rfl
    have hk2495 : (100 : Int32).toInt = 100 := rfl
    exact L2409 401 0 100 (by decide) (by decide) (by omega) _ _ _ hW hF (lv_sub hl [0, 1, 2] rfl)
  · refine lv_aload_n hx hb dX12_priceNow_7 rfl (lv_at hl 0 rfl) ?_
    refine fg_RX12_165 E hW rh0 dX12_priceNow_8 (fun y2496 m2497 => ?_)
    exact e_I E hW rfl ⟨⟨_, rfl, trivial⟩, hF⟩ dX12_priceNow_11
def ms_X12_crop : List (Nat × Nat) := [(12, 0)]
def po_X12_crop (kp : Nat → Nat) (L : List Nat) (f0 : Nat → va_E) (h0 : Nat) (u1 : Int32) (u2 : Int32) : Option Value → (Nat → va_E) → Prop := fun v f => (∃ r : Int32, v = some (.int r) ∧ (True)) ∧ FM kp L ms_X12_crop f0 f
set_option maxHeartbeats 4000000 in
set_option maxRecDepth 100000 in
theorem c_X12_crop (l : Launch) (G : va_G) (cI cJ cZ cD cR cT : ClassId) (kp : Nat → Nat) (L : List Nat) (f0 : Nat → va_E) (hTH : TH cI cJ cZ cD cR cT kp L f0) (sz : Nat) (h0 : Nat) (u1 : Int32) (u2 : Int32) (rh0 : RK kp L h0 12) : Met l yX12_crop (Cond.code yX12_crop cX12_crop 3 (some .int) :: wTab) ({ frames := 3, cells := 0, slots := 0, locals := 86 }) (va_Pc [.ref h0, .int u1, .int u2] (PreW G (tys6 cI cJ cZ cD cR cT) (va_pl L f0) sz)) (QT (po_X12_crop kp L f0 h0 u1 u2) G cI cJ cZ cD cR cT (va_A (va_pl L f0) sz) kp L) 0 0 (va_A (va_pl L f0) sz) := by
  refine metT (by decide) (Nat.le_of_ble_eq_true rfl) hTH ?_
  intro p e s m below meth c A ls E hW hl
  obtain ⟨hx, hb, -, hml, hown, hts, -, -, -⟩ := id E
  have hF : FM kp L ms_X12_crop f0 f0 := FM.rf
  have hl : lv_has ls 3 [(0, .ref h0), (1, .int u1), (2, .int u2)] := hl
  obtain ⟨pR, mR⟩ : ∃ x : Nat, oR (f0 h0) 2 = x := ⟨_, rfl⟩
  have rR : RK kp L pR 822 := by rw [← mR]; exact th_ref hTH rh0 (by decide) (by decide) rfl
  refine lv_aload_n hx hb dX12_crop_0 rfl (lv_at hl 0 rfl) ?_
  refine lv_iconst (v := 0) hx hb dX12_crop_1 (by decide) ?_
  refine fp_RX12_82 E hW rh0 dX12_crop_2 (fun f1 H locs e2 n3 g4 hW => ?_)
  have hF := FM.tr hF g4 rfl
  refine lv_aload_n hx hb dX12_crop_5 rfl (lv_at hl 0 rfl) ?_
  refine lv_iload_n hx hb dX12_crop_6 rfl (lv_at hl 1 rfl) ?_
  refine t_callV (As := [.int u1]) (rest := []) E hW (c_X12_isField l G cI cJ cZ cD cR cT kp L f1 hW.2.2.2 _ h0 u1 rh0) rh0 (by decide) rfl wk_X12_isField tw_1639 rfl ⟨Nat.le_of_ble_eq_true rfl, Nat.le_of_ble_eq_true rfl⟩ ⟨rfl, rfl⟩ hl.1 rfl (Nat.le_of_ble_eq_true rfl) dX12_crop_7 ⟨Nat.le_of_ble_eq_true rfl, Nat.le_of_ble_eq_true rfl⟩ (fun v5 f6 H locs q7 hW => ?_)
  obtain ⟨⟨x9, rfl, p10⟩, g8⟩ := q7
  have hF := FM.tr hF g8 rfl
  have J39 : ∀ (f35 : Nat → va_E) (y38 : Int32) (m36 : oI (f35 h0) 0 = 0) (m37 : oR (f35 h0) 2 = pR) (H : Heap) (locs : List Loc) (ls : Array Slot), WS G cI cJ cZ cD cR cT A kp L f35 s H locs → FM kp L ms_X12_crop f0 f35 → lv_has ls 3 [(0, .ref h0), (1, .int u1), (2, .int u2)] → W p l e ({ frames := 3, cells := 0, slots := 0, locals := 86 }) s m ([.ref h0, .int u1, .int u2] : List Value).toArray below meth c H locs 0 0 (MQ below (QT (po_X12_crop kp L f0 h0 u1 u2) G cI cJ cZ cD cR cT A kp L) ([.ref h0, .int u1, .int u2] : List Value).toArray s 0 0 A) (F0 m 43 ls [.int y38]) := by
    intro f35 y38 m36 m37 H locs ls hW hF hl
    exact e_I E hW rfl ⟨⟨_, rfl, trivial⟩, hF⟩ dX12_crop_43
  refine q_if_eq (tgt := 42) hx hb dX12_crop_10 (by decide) rfl (fun c40 => ?_) (fun c40 => ?_)
  · clear p10
    refine lv_iconst (v := (-1)) hx hb dX12_crop_42 (by decide) ?_
    exact J39 f6 (-1) ((fm_I g8 rh0 rfl).trans e2) ((fm_R g8 rh0 rfl).trans ((fm_R g4 rh0 rfl).trans mR)) _ _ _ hW hF (lv_sub hl [0, 1, 2] rfl)
  · have q41 : 0 ≤ u1.toInt ∧ u1.toInt ≤ 39 := by omega
    clear p10
    refine lv_iload_n hx hb dX12_crop_13 rfl (lv_at hl 2 rfl) ?_
    refine t_callS (As := [.int u2]) (rest := []) E hW (c_X12_isWeek l G cI cJ cZ cD cR cT kp L f6 hW.2.2.2 _ u2) wk_X12_isWeek tw_1719 rfl ⟨Nat.le_of_ble_eq_true rfl, Nat.le_of_ble_eq_true rfl⟩ ⟨rfl, rfl⟩ hl.1 rfl (Nat.le_of_ble_eq_true rfl) dX12_crop_14 ⟨Nat.le_of_ble_eq_true rfl, Nat.le_of_ble_eq_true rfl⟩ (fun v42 f43 H locs q44 hW => ?_)
    obtain ⟨⟨x46, rfl, p47⟩, g45⟩ := q44
    have hF := FM.tr hF g45 rfl
    refine q_if_eq (tgt := 42) hx hb dX12_crop_17 (by decide) rfl (fun c48 => ?_) (fun c48 => ?_)
    · have q49 : (u2.toInt < 0 ∨ 399 < u2.toInt) := by omega
      clear p47
      refine lv_iconst (v := (-1)) hx hb dX12_crop_42 (by decide) ?_
      exact J39 f43 (-1) ((fm_I g45 rh0 rfl).trans ((fm_I g8 rh0 rfl).trans e2)) ((fm_R g45 rh0 rfl).trans ((fm_R g8 rh0 rfl).trans ((fm_R g4 rh0 rfl).trans mR))) _ _ _ hW hF (lv_sub hl [0, 1, 2] rfl)
    · have q50 : 0 ≤ u2.toInt ∧ u2.toInt ≤ 399 := by omega
      clear p47
      refine lv_aload_n hx hb dX12_crop_20 rfl (lv_at hl 0 rfl) ?_
      refine fg_RX12_8 E hW rh0 dX12_crop_21 (fun a51 m52 r53 => ?_)
      obtain rfl : pR = a51 := (((fm_R g45 rh0 rfl).trans ((fm_R g8 rh0 rfl).trans ((fm_R g4 rh0 rfl).trans mR)))).symm.trans m52
      refine lv_sipush (v := 1582) hx hb dX12_crop_24 (by decide) ?_
      refine lv_bipush (v := 41) hx hb dX12_crop_27 (by decide) ?_
      refine lv_iload_n hx hb dX12_crop_29 rfl (lv_at hl 2 rfl) ?_
      refine q_imul (X := 41) hx hb dX12_crop_30 rfl rfl (by omega) (fun x54 h55 => ?_)
      refine q_iadd (X := 1582) hx hb dX12_crop_31 rfl rfl (by omega) (fun x56 h57 => ?_)
      refine lv_iconst (v := 1) hx hb dX12_crop_32 (by decide) ?_
      refine q_iadd (Y := 1) hx hb dX12_crop_33 rfl rfl (by omega) (fun x58 h59 => ?_)
      refine lv_iload_n hx hb dX12_crop_34 rfl (lv_at hl 1 rfl) ?_
      refine q_iadd hx hb dX12_crop_35 rfl rfl (by omega) (fun x60 h61 => ?_)
      refine gl_822 E hW rR ⟨by omega, by omega⟩ dX12_crop_36 (fun y62 m63 b64 => ?_)
      refine lv_iconst (v := 1) hx hb dX12_crop_37 (by decide) ?_
      refine u_isub hx hb dX12_crop_38 (fun x65 => ?_)
      refine lv_goto (tgt := 43) hx hb dX12_crop_39 (by decide) ?_
      exact J39 f43 x65 ((fm_I g45 rh0 rfl).trans ((fm_I g8 rh0 rfl).trans e2)) m52 _ _ _ hW hF (lv_sub hl [0, 1, 2] rfl)
def ms_X12_end : List (Nat × Nat) := [(12, 0), (12, 12)]
def po_X12_end (kp : Nat → Nat) (L : List Nat) (f0 : Nat → va_E) (h0 : Nat) (u1 : Int32) : Option Value → (Nat → va_E) → Prop := fun v f => (∃ r : Int32, v = some (.int r) ∧ ((-1 : Int) ≤ r.toInt ∧ r.toInt ≤ 400)) ∧ FM kp L ms_X12_end f0 f
set_option maxHeartbeats 4000000 in
set_option maxRecDepth 100000 in
theorem c_X12_end (l : Launch) (G : va_G) (cI cJ cZ cD cR cT : ClassId) (kp : Nat → Nat) (L : List Nat) (f0 : Nat → va_E) (hTH : TH cI cJ cZ cD cR cT kp L f0) (sz : Nat) (h0 : Nat) (u1 : Int32) (rh0 : RK kp L h0 12) : Met l yX12_end (Cond.code yX12_end cX12_end 2 (some .int) :: wTab) ({ frames := 1, cells := 0, slots := 0, locals := 40 }) (va_Pc [.ref h0, .int u1] (PreW G (tys6 cI cJ cZ cD cR cT) (va_pl L f0) sz)) (QT (po_X12_end kp L f0 h0 u1) G cI cJ cZ cD cR cT (va_A (va_pl L f0) sz) kp L) 0 0 (va_A (va_pl L f0) sz) := by
  refine metT (by decide) (Nat.le_of_ble_eq_true rfl) hTH ?_
  intro p e s m below meth c A ls E hW hl
  obtain ⟨hx, hb, -, hml, hown, hts, -, -, -⟩ := id E
  have hF : FM kp L ms_X12_end f0 f0 := FM.rf
  have hl : lv_has ls 2 [(0, .ref h0), (1, .int u1)] := hl
  obtain ⟨pR, mR⟩ : ∃ x : Nat, oR (f0 h0) 2 = x := ⟨_, rfl⟩
  have rR : RK kp L pR 822 := by rw [← mR]; exact th_ref hTH rh0 (by decide) (by decide) rfl
  refine lv_aload_n hx hb dX12_end_0 rfl (lv_at hl 0 rfl) ?_
  refine lv_iconst (v := 0) hx hb dX12_end_1 (by decide) ?_
  refine fp_RX12_82 E hW rh0 dX12_end_2 (fun f1 H locs e2 n3 g4 hW => ?_)
  have hF := FM.tr hF g4 rfl
  refine lv_iload_n hx hb dX12_end_5 rfl (lv_at hl 1 rfl) ?_
  refine q_if_lt (tgt := 17) hx hb dX12_end_6 (by decide) rfl (fun c5 => ?_) (fun c5 => ?_)
  · refine lv_iconst (v := (-1)) hx hb dX12_end_17 (by decide) ?_
    exact e_I E hW rfl ⟨⟨_, rfl, (by have hk : ((-1) : Int32).toInt = -1 := rfl; first | decide | omega)⟩, hF⟩ dX12_end_18
  · refine lv_iload_n hx hb dX12_end_9 rfl (lv_at hl 1 rfl) ?_
    refine lv_aload_n hx hb dX12_end_10 rfl (lv_at hl 0 rfl) ?_
    refine fg_RX12_174 E hW rh0 dX12_end_11 (fun y6 m7 b8 => ?_)
    refine q_icmp_le (tgt := 19) hx hb dX12_end_14 (by decide) rfl rfl (fun c9 => ?_) (fun c9 => ?_)
    · refine lv_aload_n hx hb dX12_end_19 rfl (lv_at hl 0 rfl) ?_
      refine lv_iload_n hx hb dX12_end_20 rfl (lv_at hl 1 rfl) ?_
      refine fp_RX12_174 E hW rh0 (by omega) dX12_end_21 (fun f10 H locs e11 n12 g13 hW => ?_)
      have hF := FM.tr hF g13 rfl
      refine lv_iload_n hx hb dX12_end_24 rfl (lv_at hl 1 rfl) ?_
      exact e_I E hW rfl ⟨⟨_, rfl, (by first | omega | trivial)⟩, hF⟩ dX12_end_25
    · refine lv_iconst (v := (-1)) hx hb dX12_end_17 (by decide) ?_
      exact e_I E hW rfl ⟨⟨_, rfl, (by have hk : ((-1) : Int32).toInt = -1 := rfl; first | decide | omega)⟩, hF⟩ dX12_end_18
def ms_X12_fault : List (Nat × Nat) := [(12, 0)]
def po_X12_fault (kp : Nat → Nat) (L : List Nat) (f0 : Nat → va_E) (h0 : Nat) : Option Value → (Nat → va_E) → Prop := fun v f => (∃ r : Int32, v = some (.int r) ∧ (True)) ∧ FM kp L ms_X12_fault f0 f
set_option maxHeartbeats 4000000 in
set_option maxRecDepth 100000 in
theorem c_X12_fault (l : Launch) (G : va_G) (cI cJ cZ cD cR cT : ClassId) (kp : Nat → Nat) (L : List Nat) (f0 : Nat → va_E) (hTH : TH cI cJ cZ cD cR cT kp L f0) (sz : Nat) (h0 : Nat) (rh0 : RK kp L h0 12) : Met l yX12_fault (Cond.code yX12_fault cX12_fault 1 (some .int) :: wTab) ({ frames := 1, cells := 0, slots := 0, locals := 40 }) (va_Pc [.ref h0] (PreW G (tys6 cI cJ cZ cD cR cT) (va_pl L f0) sz)) (QT (po_X12_fault kp L f0 h0) G cI cJ cZ cD cR cT (va_A (va_pl L f0) sz) kp L) 0 0 (va_A (va_pl L f0) sz) := by
  refine metT (by decide) (Nat.le_of_ble_eq_true rfl) hTH ?_
  intro p e s m below meth c A ls E hW hl
  obtain ⟨hx, hb, -, hml, hown, hts, -, -, -⟩ := id E
  have hF : FM kp L ms_X12_fault f0 f0 := FM.rf
  have hl : lv_has ls 1 [(0, .ref h0)] := hl
  obtain ⟨pR, mR⟩ : ∃ x : Nat, oR (f0 h0) 2 = x := ⟨_, rfl⟩
  have rR : RK kp L pR 822 := by rw [← mR]; exact th_ref hTH rh0 (by decide) (by decide) rfl
  refine lv_aload_n hx hb dX12_fault_0 rfl (lv_at hl 0 rfl) ?_
  refine lv_iconst (v := 0) hx hb dX12_fault_1 (by decide) ?_
  refine fp_RX12_82 E hW rh0 dX12_fault_2 (fun f1 H locs e2 n3 g4 hW => ?_)
  have hF := FM.tr hF g4 rfl
  refine lv_aload_n hx hb dX12_fault_5 rfl (lv_at hl 0 rfl) ?_
  refine fg_RX12_35 E hW rh0 dX12_fault_6 (fun y5 m6 => ?_)
  exact e_I E hW rfl ⟨⟨_, rfl, trivial⟩, hF⟩ dX12_fault_9
def ms_X12_holdsAny : List (Nat × Nat) := []
def po_X12_holdsAny (kp : Nat → Nat) (L : List Nat) (f0 : Nat → va_E) (h0 : Nat) (u1 : Int32) (u2 : Int32) : Option Value → (Nat → va_E) → Prop := fun v f => (∃ r : Int32, v = some (.int r) ∧ ((0 : Int) ≤ r.toInt ∧ r.toInt ≤ 1)) ∧ FM kp L ms_X12_holdsAny f0 f
set_option maxHeartbeats 4000000 in
set_option maxRecDepth 100000 in
theorem c_X12_holdsAny (l : Launch) (G : va_G) (cI cJ cZ cD cR cT : ClassId) (kp : Nat → Nat) (L : List Nat) (f0 : Nat → va_E) (hTH : TH cI cJ cZ cD cR cT kp L f0) (sz : Nat) (h0 : Nat) (u1 : Int32) (u2 : Int32) (rh0 : RK kp L h0 12) (pu1 : (-1 : Int) ≤ u1.toInt ∧ u1.toInt ≤ 39) (pu2 : (0 : Int) ≤ u2.toInt ∧ u2.toInt ≤ 1) : Met l yX12_holdsAny (Cond.code yX12_holdsAny cX12_holdsAny 5 (some .boolean) :: wTab) ({ frames := 2, cells := 0, slots := 0, locals := 60 }) (va_Pc [.ref h0, .int u1, .int u2] (PreW G (tys6 cI cJ cZ cD cR cT) (va_pl L f0) sz)) (QT (po_X12_holdsAny kp L f0 h0 u1 u2) G cI cJ cZ cD cR cT (va_A (va_pl L f0) sz) kp L) 0 0 (va_A (va_pl L f0) sz) := by
  refine metT (by decide) (Nat.le_of_ble_eq_true rfl) hTH ?_
  intro p e s m below meth c A ls E hW hl
  obtain ⟨hx, hb, -, hml, hown, hts, -, -, -⟩ := id E
  have hF : FM kp L ms_X12_holdsAny f0 f0 := FM.rf
  have hl : lv_has ls 5 [(0, .ref h0), (1, .int u1), (2, .int u2)] := hl
  obtain ⟨pR, mR⟩ : ∃ x : Nat, oR (f0 h0) 2 = x := ⟨_, rfl⟩
  have rR : RK kp L pR 822 := by rw [← mR]; exact th_ref hTH rh0 (by decide) (by decide) rfl
  refine lv_iconst (v := 0) hx hb dX12_holdsAny_0 (by decide) ?_
  refine lv_istore_n (lv' := [(3, .int 0), (0, .ref h0), (1, .int u1), (2, .int u2)]) hx hb dX12_holdsAny_1 rfl hl (by decide) rfl (fun ls hl => ?_)
  refine lv_iconst (v := 0) hx hb dX12_holdsAny_2 (by decide) ?_
  refine lv_istore (lv' := [(4, .int 0), (3, .int 0), (0, .ref h0), (1, .int u1), (2, .int u2)]) hx hb dX12_holdsAny_3 hl (by decide) rfl (fun ls hl => ?_)
  have L1745 : ∀ (n : Nat), ∀ (f1739 : Nat → va_E) (y1741 : Int32) (y1743 : Int32) (m1740 : oR (f1739 h0) 2 = pR) (b1742 : (0 : Int) ≤ y1741.toInt ∧ y1741.toInt ≤ 40) (b1744 : (0 : Int) ≤ y1743.toInt ∧ y1743.toInt ≤ 1) (hm : (41 : Int) - y1741.toInt ≤ n) (H : Heap) (locs : List Loc) (ls : Array Slot), WS G cI cJ cZ cD cR cT A kp L f1739 s H locs → FM kp L ms_X12_holdsAny f0 f1739 → lv_has ls 5 [(4, .int y1741), (3, .int y1743), (0, .ref h0), (1, .int u1), (2, .int u2)] → W p l e ({ frames := 2, cells := 0, slots := 0, locals := 60 }) s m ([.ref h0, .int u1, .int u2] : List Value).toArray below meth c H locs 0 0 (MQ below (QT (po_X12_holdsAny kp L f0 h0 u1 u2) G cI cJ cZ cD cR cT A kp L) ([.ref h0, .int u1, .int u2] : List Value).toArray s 0 0 A) (F0 m 5 ls []) := by
    intro n
    induction n with
    | zero =>
      intro f1739 y1741 y1743 m1740 b1742 b1744 hm H locs ls hW hF hl
      have hz := i32_b y1741
      exfalso; omega
    | succ n ih =>
      intro f1739 y1741 y1743 m1740 b1742 b1744 hm H locs ls hW hF hl
      have ih5 := ih
      refine lv_iload hx hb dX12_holdsAny_5 (lv_at hl 0 rfl) ?_
      refine lv_aload_n hx hb dX12_holdsAny_7 rfl (lv_at hl 2 rfl) ?_
      refine fg_RX12_8 E hW rh0 dX12_holdsAny_8 (fun a1746 m1747 r1748 => ?_)
      obtain rfl : pR = a1746 := (m1740).symm.trans m1747
      refine lv_iconst (v := 2) hx hb dX12_holdsAny_11 (by decide) ?_
      refine gl_822 E hW rR (by decide) dX12_holdsAny_12 (fun y1749 m1750 b1751 => ?_)
      have b1752 := rr_2 (show RowInv _ from b1751) m1750 (by decide)
      refine q_icmp_ge (tgt := 68) hx hb dX12_holdsAny_13 (by decide) rfl rfl (fun c1826 => ?_) (fun c1826 => ?_)
      · refine lv_iload_n hx hb dX12_holdsAny_68 rfl (lv_at hl 1 rfl) ?_
        exact e_Z E hW rfl (by omega) ⟨⟨_, rfl, (by first | omega | trivial)⟩, hF⟩ dX12_holdsAny_69
      · refine lv_iload_n hx hb dX12_holdsAny_16 rfl (lv_at hl 1 rfl) ?_
        have J1864 : ∀ (f1859 : Nat → va_E) (y1862 : Int32) (m1860 : oR (f1859 h0) 2 = pR) (m1861 : aI (f1859 pR) (2 : Int32).toNatClampNeg = y1749) (b1863 : (0 : Int) ≤ y1862.toInt ∧ y1862.toInt ≤ 1) (H : Heap) (locs : List Loc) (ls : Array Slot), WS G cI cJ cZ cD cR cT A kp L f1859 s H locs → FM kp L ms_X12_holdsAny f0 f1859 → lv_has ls 5 [(4, .int y1741), (3, .int y1743), (0, .ref h0), (1, .int u1), (2, .int u2)] → W p l e ({ frames := 2, cells := 0, slots := 0, locals := 60 }) s m ([.ref h0, .int u1, .int u2] : List Value).toArray below meth c H locs 0 0 (MQ below (QT (po_X12_holdsAny kp L f0 h0 u1 u2) G cI cJ cZ cD cR cT A kp L) ([.ref h0, .int u1, .int u2] : List Value).toArray s 0 0 A) (F0 m 61 ls [.int y1862]) := by
          intro f1859 y1862 m1860 m1861 b1863 H locs ls hW hF hl
          refine lv_istore_n (lv' := [(3, .int y1862), (4, .int y1741), (0, .ref h0), (1, .int u1), (2, .int u2)]) hx hb dX12_holdsAny_61 rfl hl (by decide) rfl (fun ls hl => ?_)
          refine q_iinc hx hb dX12_holdsAny_62 hl (k := 1) rfl rfl rfl (by omega) (by decide) (fun i1865 ls h1866 hl => ?_)
          have hl : lv_has ls 5 [(4, .int i1865), (3, .int y1862), (0, .ref h0), (1, .int u1), (2, .int u2)] := hl
          refine lv_goto (tgt := 5) hx hb dX12_holdsAny_65 (by decide) ?_
          exact ih5 f1859 i1865 y1862 m1860 (by omega) (by omega) (by omega) _ _ _ hW hF (lv_sub hl [0, 1, 2, 3, 4] rfl)
        refine q_if_ne (tgt := 56) hx hb dX12_holdsAny_17 (by decide) rfl (fun c1867 => ?_) (fun c1867 => ?_)
        · refine lv_iconst (v := 1) hx hb dX12_holdsAny_56 (by decide) ?_
          refine lv_goto (tgt := 61) hx hb dX12_holdsAny_57 (by decide) ?_
          exact J1864 f1739 1 m1747 m1750 (by decide) _ _ _ hW hF (lv_sub hl [0, 1, 2, 3, 4] rfl)
        · refine lv_aload_n hx hb dX12_holdsAny_20 rfl (lv_at hl 2 rfl) ?_
          refine fg_RX12_8 E hW rh0 dX12_holdsAny_21 (fun a1868 m1869 r1870 => ?_)
          obtain rfl : pR = a1868 := (m1747).symm.trans m1869
          refine lv_iload hx hb dX12_holdsAny_24 (lv_at hl 0 rfl) ?_
          refine t_callS (As := [.int y1741]) (rest := [.ref pR]) E hW (c_X12_fieldAt l G cI cJ cZ cD cR cT kp L f1739 hW.2.2.2 _ y1741 (by omega)) wk_X12_fieldAt tw_1624 rfl ⟨Nat.le_of_ble_eq_true rfl, Nat.le_of_ble_eq_true rfl⟩ ⟨rfl, rfl⟩ hl.1 rfl (Nat.le_of_ble_eq_true rfl) dX12_holdsAny_26 ⟨Nat.le_of_ble_eq_true rfl, Nat.le_of_ble_eq_true rfl⟩ (fun v1871 f1872 H locs q1873 hW => ?_)
          obtain ⟨⟨x1875, rfl, p1876⟩, g1874⟩ := q1873
          have hF := FM.tr hF g1874 rfl
          refine lv_iconst (v := 3) hx hb dX12_holdsAny_29 (by decide) ?_
          refine q_iadd (Y := 3) hx hb dX12_holdsAny_30 rfl rfl (by omega) (fun x1877 h1878 => ?_)
          refine gl_822 E hW rR ⟨by omega, by omega⟩ dX12_holdsAny_31 (fun y1879 m1880 b1881 => ?_)
          have b1882 := rr_fhol (show RowInv _ from b1881) m1880 (by omega)
          refine lv_iload_n hx hb dX12_holdsAny_32 rfl (lv_at hl 3 rfl) ?_
          refine q_icmp_ne (tgt := 60) hx hb dX12_holdsAny_33 (by decide) rfl rfl (fun c1883 => ?_) (fun c1883 => ?_)
          · refine lv_iconst (v := 0) hx hb dX12_holdsAny_60 (by decide) ?_
            exact J1864 f1872 0 ((fm_R g1874 rh0 rfl).trans m1869) ((congrArg (fun z => aI z (2 : Int32).toNatClampNeg) (fm_A g1874 rR (by decide) rfl)).trans m1750) (by decide) _ _ _ hW hF (lv_sub hl [0, 1, 2, 3, 4] rfl)
          · refine lv_iload_n hx hb dX12_holdsAny_36 rfl (lv_at hl 4 rfl) ?_
            refine q_if_eq (tgt := 56) hx hb dX12_holdsAny_37 (by decide) rfl (fun c1884 => ?_) (fun c1884 => ?_)
            · refine lv_iconst (v := 1) hx hb dX12_holdsAny_56 (by decide) ?_
              refine lv_goto (tgt := 61) hx hb dX12_holdsAny_57 (by decide) ?_
              exact J1864 f1872 1 ((fm_R g1874 rh0 rfl).trans m1869) ((congrArg (fun z => aI z (2 : Int32).toNatClampNeg) (fm_A g1874 rR (by decide) rfl)).trans m1750) (by decide) _ _ _ hW hF (lv_sub hl [0, 1, 2, 3, 4] rfl)
            · refine lv_aload_n hx hb dX12_holdsAny_40 rfl (lv_at hl 2 rfl) ?_
              refine fg_RX12_8 E hW rh0 dX12_holdsAny_41 (fun a1885 m1886 r1887 => ?_)
              obtain rfl : pR = a1885 := (((fm_R g1874 rh0 rfl).trans m1869)).symm.trans m1886
              refine lv_iload hx hb dX12_holdsAny_44 (lv_at hl 0 rfl) ?_
              refine t_callS (As := [.int y1741]) (rest := [.ref pR]) E hW (c_X12_fieldAt l G cI cJ cZ cD cR cT kp L f1872 hW.2.2.2 _ y1741 (by omega)) wk_X12_fieldAt tw_1624 rfl ⟨Nat.le_of_ble_eq_true rfl, Nat.le_of_ble_eq_true rfl⟩ ⟨rfl, rfl⟩ hl.1 rfl (Nat.le_of_ble_eq_true rfl) dX12_holdsAny_46 ⟨Nat.le_of_ble_eq_true rfl, Nat.le_of_ble_eq_true rfl⟩ (fun v1888 f1889 H locs q1890 hW => ?_)
              obtain ⟨⟨x1892, rfl, p1893⟩, g1891⟩ := q1890
              have m1894 : aI (f1889 pR) (2 : Int32).toNatClampNeg = y1749 := ((congrArg (fun z => aI z (2 : Int32).toNatClampNeg) (fm_A g1891 rR (by decide) rfl)).trans ((congrArg (fun z => aI z (2 : Int32).toNatClampNeg) (fm_A g1874 rR (by decide) rfl)).trans m1750))
              have hF := FM.tr hF g1891 rfl
              refine lv_iconst (v := 5) hx hb dX12_holdsAny_49 (by decide) ?_
              refine q_iadd (Y := 5) hx hb dX12_holdsAny_50 rfl rfl (by omega) (fun x1895 h1896 => ?_)
              refine gl_822 E hW rR ⟨by omega, by omega⟩ dX12_holdsAny_51 (fun y1897 m1898 b1899 => ?_)
              refine lv_iconst (v := 1) hx hb dX12_holdsAny_52 (by decide) ?_
              refine q_icmp_ne (Y := 1) (tgt := 60) hx hb dX12_holdsAny_53 (by decide) rfl rfl (fun c1900 => ?_) (fun c1900 => ?_)
              · refine lv_iconst (v := 0) hx hb dX12_holdsAny_60 (by decide) ?_
                exact J1864 f1889 0 ((fm_R g1891 rh0 rfl).trans m1886) m1894 (by decide) _ _ _ hW hF (lv_sub hl [0, 1, 2, 3, 4] rfl)
              · refine lv_iconst (v := 1) hx hb dX12_holdsAny_56 (by decide) ?_
                refine lv_goto (tgt := 61) hx hb dX12_holdsAny_57 (by decide) ?_
                exact J1864 f1889 1 ((fm_R g1891 rh0 rfl).trans m1886) m1894 (by decide) _ _ _ hW hF (lv_sub hl [0, 1, 2, 3, 4] rfl)
  have hk1901 : (0 : Int32).toInt = 0 := rfl
  have hk1902 : (0 : Int32).toInt = 0 := rfl
  exact L1745 41 f0 0 0 mR (by decide) (by decide) (by omega) _ _ _ hW hF (lv_sub hl [0, 1, 2, 3, 4] rfl)
def ms_X12_rentOf : List (Nat × Nat) := []
def po_X12_rentOf (kp : Nat → Nat) (L : List Nat) (f0 : Nat → va_E) (h0 : Nat) (u1 : Int32) : Option Value → (Nat → va_E) → Prop := fun v f => (∃ r : Int32, v = some (.int r) ∧ ((0 : Int) ≤ r.toInt)) ∧ FM kp L ms_X12_rentOf f0 f
set_option maxHeartbeats 4000000 in
set_option maxRecDepth 100000 in
theorem c_X12_rentOf (l : Launch) (G : va_G) (cI cJ cZ cD cR cT : ClassId) (kp : Nat → Nat) (L : List Nat) (f0 : Nat → va_E) (hTH : TH cI cJ cZ cD cR cT kp L f0) (sz : Nat) (h0 : Nat) (u1 : Int32) (rh0 : RK kp L h0 12) (pu1 : (0 : Int) ≤ u1.toInt ∧ u1.toInt ≤ 39) : Met l yX12_rentOf (Cond.code yX12_rentOf cX12_rentOf 2 (some .int) :: wTab) ({ frames := 2, cells := 0, slots := 0, locals := 60 }) (va_Pc [.ref h0, .int u1] (PreW G (tys6 cI cJ cZ cD cR cT) (va_pl L f0) sz)) (QT (po_X12_rentOf kp L f0 h0 u1) G cI cJ cZ cD cR cT (va_A (va_pl L f0) sz) kp L) 0 0 (va_A (va_pl L f0) sz) := by
  refine metT (by decide) (Nat.le_of_ble_eq_true rfl) hTH ?_
  intro p e s m below meth c A ls E hW hl
  obtain ⟨hx, hb, -, hml, hown, hts, -, -, -⟩ := id E
  have hF : FM kp L ms_X12_rentOf f0 f0 := FM.rf
  have hl : lv_has ls 2 [(0, .ref h0), (1, .int u1)] := hl
  obtain ⟨pR, mR⟩ : ∃ x : Nat, oR (f0 h0) 2 = x := ⟨_, rfl⟩
  have rR : RK kp L pR 822 := by rw [← mR]; exact th_ref hTH rh0 (by decide) (by decide) rfl
  refine lv_aload_n hx hb dX12_rentOf_0 rfl (lv_at hl 0 rfl) ?_
  refine fg_RX12_8 E hW rh0 dX12_rentOf_1 (fun a1 m2 r3 => ?_)
  obtain rfl : pR = a1 := (mR).symm.trans m2
  refine lv_iload_n hx hb dX12_rentOf_4 rfl (lv_at hl 1 rfl) ?_
  refine t_callS (As := [.int u1]) (rest := [.ref pR]) E hW (c_X12_fieldAt l G cI cJ cZ cD cR cT kp L f0 hW.2.2.2 _ u1 (by omega)) wk_X12_fieldAt tw_1624 rfl ⟨Nat.le_of_ble_eq_true rfl, Nat.le_of_ble_eq_true rfl⟩ ⟨rfl, rfl⟩ hl.1 rfl (Nat.le_of_ble_eq_true rfl) dX12_rentOf_5 ⟨Nat.le_of_ble_eq_true rfl, Nat.le_of_ble_eq_true rfl⟩ (fun v4 f5 H locs q6 hW => ?_)
  obtain ⟨⟨x8, rfl, p9⟩, g7⟩ := q6
  have hF := FM.tr hF g7 rfl
  refine lv_iconst (v := 2) hx hb dX12_rentOf_8 (by decide) ?_
  refine q_iadd (Y := 2) hx hb dX12_rentOf_9 rfl rfl (by omega) (fun x10 h11 => ?_)
  refine gl_822 E hW rR ⟨by omega, by omega⟩ dX12_rentOf_10 (fun y12 m13 b14 => ?_)
  have J34 : ∀ (f30 : Nat → va_E) (y32 : Int32) (m31 : oR (f30 h0) 2 = pR) (b33 : (0 : Int) ≤ y32.toInt) (H : Heap) (locs : List Loc) (ls : Array Slot), WS G cI cJ cZ cD cR cT A kp L f30 s H locs → FM kp L ms_X12_rentOf f0 f30 → lv_has ls 2 [(0, .ref h0), (1, .int u1)] → W p l e ({ frames := 2, cells := 0, slots := 0, locals := 60 }) s m ([.ref h0, .int u1] : List Value).toArray below meth c H locs 0 0 (MQ below (QT (po_X12_rentOf kp L f0 h0 u1) G cI cJ cZ cD cR cT A kp L) ([.ref h0, .int u1] : List Value).toArray s 0 0 A) (F0 m 29 ls [.int y32]) := by
    intro f30 y32 m31 b33 H locs ls hW hF hl
    exact e_I E hW rfl ⟨⟨_, rfl, (by first | omega | trivial)⟩, hF⟩ dX12_rentOf_29
  refine q_if_ge (tgt := 18) hx hb dX12_rentOf_11 (by decide) rfl (fun c35 => ?_) (fun c35 => ?_)
  · refine lv_aload_n hx hb dX12_rentOf_18 rfl (lv_at hl 0 rfl) ?_
    refine fg_RX12_8 E hW rh0 dX12_rentOf_19 (fun a36 m37 r38 => ?_)
    obtain rfl : pR = a36 := (((fm_R g7 rh0 rfl).trans m2)).symm.trans m37
    refine lv_iload_n hx hb dX12_rentOf_22 rfl (lv_at hl 1 rfl) ?_
    refine t_callS (As := [.int u1]) (rest := [.ref pR]) E hW (c_X12_fieldAt l G cI cJ cZ cD cR cT kp L f5 hW.2.2.2 _ u1 (by omega)) wk_X12_fieldAt tw_1624 rfl ⟨Nat.le_of_ble_eq_true rfl, Nat.le_of_ble_eq_true rfl⟩ ⟨rfl, rfl⟩ hl.1 rfl (Nat.le_of_ble_eq_true rfl) dX12_rentOf_23 ⟨Nat.le_of_ble_eq_true rfl, Nat.le_of_ble_eq_true rfl⟩ (fun v39 f40 H locs q41 hW => ?_)
    obtain ⟨⟨x43, rfl, p44⟩, g42⟩ := q41
    have hF := FM.tr hF g42 rfl
    refine lv_iconst (v := 2) hx hb dX12_rentOf_26 (by decide) ?_
    refine q_iadd (Y := 2) hx hb dX12_rentOf_27 rfl rfl (by omega) (fun x45 h46 => ?_)
    refine gl_822 E hW rR ⟨by omega, by omega⟩ dX12_rentOf_28 (fun y47 m48 b49 => ?_)
    have m50 : aI (f40 pR) (x45 : Int32).toNatClampNeg = y12 := by rw [show (x45 : Int32) = x10 from Int32.toInt_inj.mp (by omega)]; exact ((congrArg (fun z => aI z (x10 : Int32).toNatClampNeg) (fm_A g42 rR (by decide) rfl)).trans m13)
    obtain rfl : y12 = y47 := (m50).symm.trans m48
    exact J34 f40 y12 ((fm_R g42 rh0 rfl).trans m37) (by omega) _ _ _ hW hF (lv_sub hl [0, 1] rfl)
  · refine lv_iconst (v := 0) hx hb dX12_rentOf_14 (by decide) ?_
    refine lv_goto (tgt := 29) hx hb dX12_rentOf_15 (by decide) ?_
    exact J34 f5 0 ((fm_R g7 rh0 rfl).trans m2) (by decide) _ _ _ hW hF (lv_sub hl [0, 1] rfl)
def ms_X12_canWrit : List (Nat × Nat) := []
def po_X12_canWrit (kp : Nat → Nat) (L : List Nat) (f0 : Nat → va_E) (h0 : Nat) (u1 : Int32) : Option Value → (Nat → va_E) → Prop := fun v f => (∃ r : Int32, v = some (.int r) ∧ ((0 : Int) ≤ r.toInt ∧ r.toInt ≤ 1)) ∧ FM kp L ms_X12_canWrit f0 f
set_option maxHeartbeats 4000000 in
set_option maxRecDepth 100000 in
theorem c_X12_canWrit (l : Launch) (G : va_G) (cI cJ cZ cD cR cT : ClassId) (kp : Nat → Nat) (L : List Nat) (f0 : Nat → va_E) (hTH : TH cI cJ cZ cD cR cT kp L f0) (sz : Nat) (h0 : Nat) (u1 : Int32) (rh0 : RK kp L h0 12) (pu1 : (0 : Int) ≤ u1.toInt ∧ u1.toInt ≤ 39) : Met l yX12_canWrit (Cond.code yX12_canWrit cX12_canWrit 2 (some .boolean) :: wTab) ({ frames := 2, cells := 0, slots := 0, locals := 63 }) (va_Pc [.ref h0, .int u1] (PreW G (tys6 cI cJ cZ cD cR cT) (va_pl L f0) sz)) (QT (po_X12_canWrit kp L f0 h0 u1) G cI cJ cZ cD cR cT (va_A (va_pl L f0) sz) kp L) 0 0 (va_A (va_pl L f0) sz) := by
  refine metT (by decide) (Nat.le_of_ble_eq_true rfl) hTH ?_
  intro p e s m below meth c A ls E hW hl
  obtain ⟨hx, hb, -, hml, hown, hts, -, -, -⟩ := id E
  have hF : FM kp L ms_X12_canWrit f0 f0 := FM.rf
  have hl : lv_has ls 2 [(0, .ref h0), (1, .int u1)] := hl
  obtain ⟨pR, mR⟩ : ∃ x : Nat, oR (f0 h0) 2 = x := ⟨_, rfl⟩
  have rR : RK kp L pR 822 := by rw [← mR]; exact th_ref hTH rh0 (by decide) (by decide) rfl
  refine lv_aload_n hx hb dX12_canWrit_0 rfl (lv_at hl 0 rfl) ?_
  refine fg_RX12_8 E hW rh0 dX12_canWrit_1 (fun a1 m2 r3 => ?_)
  obtain rfl : pR = a1 := (mR).symm.trans m2
  refine lv_iload_n hx hb dX12_canWrit_4 rfl (lv_at hl 1 rfl) ?_
  refine t_callS (As := [.int u1]) (rest := [.ref pR]) E hW (c_X12_fieldAt l G cI cJ cZ cD cR cT kp L f0 hW.2.2.2 _ u1 (by omega)) wk_X12_fieldAt tw_1624 rfl ⟨Nat.le_of_ble_eq_true rfl, Nat.le_of_ble_eq_true rfl⟩ ⟨rfl, rfl⟩ hl.1 rfl (Nat.le_of_ble_eq_true rfl) dX12_canWrit_5 ⟨Nat.le_of_ble_eq_true rfl, Nat.le_of_ble_eq_true rfl⟩ (fun v4 f5 H locs q6 hW => ?_)
  obtain ⟨⟨x8, rfl, p9⟩, g7⟩ := q6
  have hF := FM.tr hF g7 rfl
  refine lv_iconst (v := 3) hx hb dX12_canWrit_8 (by decide) ?_
  refine q_iadd (Y := 3) hx hb dX12_canWrit_9 rfl rfl (by omega) (fun x10 h11 => ?_)
  refine gl_822 E hW rR ⟨by omega, by omega⟩ dX12_canWrit_10 (fun y12 m13 b14 => ?_)
  have b15 := rr_fhol (show RowInv _ from b14) m13 (by omega)
  refine lv_iconst (v := (-1)) hx hb dX12_canWrit_11 (by decide) ?_
  have J42 : ∀ (f38 : Nat → va_E) (y40 : Int32) (m39 : oR (f38 h0) 2 = pR) (b41 : (0 : Int) ≤ y40.toInt ∧ y40.toInt ≤ 1) (H : Heap) (locs : List Loc) (ls : Array Slot), WS G cI cJ cZ cD cR cT A kp L f38 s H locs → FM kp L ms_X12_canWrit f0 f38 → lv_has ls 2 [(0, .ref h0), (1, .int u1)] → W p l e ({ frames := 2, cells := 0, slots := 0, locals := 63 }) s m ([.ref h0, .int u1] : List Value).toArray below meth c H locs 0 0 (MQ below (QT (po_X12_canWrit kp L f0 h0 u1) G cI cJ cZ cD cR cT A kp L) ([.ref h0, .int u1] : List Value).toArray s 0 0 A) (F0 m 43 ls [.int y40]) := by
    intro f38 y40 m39 b41 H locs ls hW hF hl
    clear b15
    exact e_Z E hW rfl (by omega) ⟨⟨_, rfl, (by first | omega | trivial)⟩, hF⟩ dX12_canWrit_43
  refine q_icmp_eq (Y := -1) (tgt := 42) hx hb dX12_canWrit_12 (by decide) rfl rfl (fun c43 => ?_) (fun c43 => ?_)
  · refine lv_iconst (v := 0) hx hb dX12_canWrit_42 (by decide) ?_
    exact J42 f5 0 ((fm_R g7 rh0 rfl).trans m2) (by decide) _ _ _ hW hF (lv_sub hl [0, 1] rfl)
  · refine lv_aload_n hx hb dX12_canWrit_15 rfl (lv_at hl 0 rfl) ?_
    refine fg_RX12_8 E hW rh0 dX12_canWrit_16 (fun a44 m45 r46 => ?_)
    obtain rfl : pR = a44 := (((fm_R g7 rh0 rfl).trans m2)).symm.trans m45
    refine lv_iload_n hx hb dX12_canWrit_19 rfl (lv_at hl 1 rfl) ?_
    refine t_callS (As := [.int u1]) (rest := [.ref pR]) E hW (c_X12_fieldAt l G cI cJ cZ cD cR cT kp L f5 hW.2.2.2 _ u1 (by omega)) wk_X12_fieldAt tw_1624 rfl ⟨Nat.le_of_ble_eq_true rfl, Nat.le_of_ble_eq_true rfl⟩ ⟨rfl, rfl⟩ hl.1 rfl (Nat.le_of_ble_eq_true rfl) dX12_canWrit_20 ⟨Nat.le_of_ble_eq_true rfl, Nat.le_of_ble_eq_true rfl⟩ (fun v47 f48 H locs q49 hW => ?_)
    obtain ⟨⟨x51, rfl, p52⟩, g50⟩ := q49
    have hF := FM.tr hF g50 rfl
    refine lv_iconst (v := 4) hx hb dX12_canWrit_23 (by decide) ?_
    refine q_iadd (Y := 4) hx hb dX12_canWrit_24 rfl rfl (by omega) (fun x53 h54 => ?_)
    refine gl_822 E hW rR ⟨by omega, by omega⟩ dX12_canWrit_25 (fun y55 m56 b57 => ?_)
    refine q_if_le (tgt := 42) hx hb dX12_canWrit_26 (by decide) rfl (fun c58 => ?_) (fun c58 => ?_)
    · refine lv_iconst (v := 0) hx hb dX12_canWrit_42 (by decide) ?_
      exact J42 f48 0 ((fm_R g50 rh0 rfl).trans m45) (by decide) _ _ _ hW hF (lv_sub hl [0, 1] rfl)
    · refine lv_aload_n hx hb dX12_canWrit_29 rfl (lv_at hl 0 rfl) ?_
      refine lv_iload_n hx hb dX12_canWrit_30 rfl (lv_at hl 1 rfl) ?_
      refine t_callV (As := [.int u1]) (rest := []) E hW (c_X12_writOf l G cI cJ cZ cD cR cT kp L f48 hW.2.2.2 _ h0 u1 rh0 (by omega)) rh0 (by decide) rfl wk_X12_writOf tw_1643 rfl ⟨Nat.le_of_ble_eq_true rfl, Nat.le_of_ble_eq_true rfl⟩ ⟨rfl, rfl⟩ hl.1 rfl (Nat.le_of_ble_eq_true rfl) dX12_canWrit_31 ⟨Nat.le_of_ble_eq_true rfl, Nat.le_of_ble_eq_true rfl⟩ (fun v59 f60 H locs q61 hW => ?_)
      obtain ⟨⟨x63, rfl, p64⟩, g62⟩ := q61
      have m65 : aI (f60 pR) (x10 : Int32).toNatClampNeg = y12 := ((congrArg (fun z => aI z (x10 : Int32).toNatClampNeg) (fm_A g62 rR (by decide) rfl)).trans ((congrArg (fun z => aI z (x10 : Int32).toNatClampNeg) (fm_A g50 rR (by decide) rfl)).trans m13))
      have hF := FM.tr hF g62 rfl
      refine lv_iconst (v := (-1)) hx hb dX12_canWrit_34 (by decide) ?_
      refine q_icmp_ne (Y := -1) (tgt := 42) hx hb dX12_canWrit_35 (by decide) rfl rfl (fun c66 => ?_) (fun c66 => ?_)
      · refine lv_iconst (v := 0) hx hb dX12_canWrit_42 (by decide) ?_
        exact J42 f60 0 ((fm_R g62 rh0 rfl).trans ((fm_R g50 rh0 rfl).trans m45)) (by decide) _ _ _ hW hF (lv_sub hl [0, 1] rfl)
      · refine lv_iconst (v := 1) hx hb dX12_canWrit_38 (by decide) ?_
        refine lv_goto (tgt := 43) hx hb dX12_canWrit_39 (by decide) ?_
        exact J42 f60 1 ((fm_R g62 rh0 rfl).trans ((fm_R g50 rh0 rfl).trans m45)) (by decide) _ _ _ hW hF (lv_sub hl [0, 1] rfl)
def ms_X12_isGuarded : List (Nat × Nat) := []
def po_X12_isGuarded (kp : Nat → Nat) (L : List Nat) (f0 : Nat → va_E) (h0 : Nat) (u1 : Int32) : Option Value → (Nat → va_E) → Prop := fun v f => (∃ r : Int32, v = some (.int r) ∧ ((0 : Int) ≤ r.toInt ∧ r.toInt ≤ 1)) ∧ FM kp L ms_X12_isGuarded f0 f
set_option maxHeartbeats 4000000 in
set_option maxRecDepth 100000 in
theorem c_X12_isGuarded (l : Launch) (G : va_G) (cI cJ cZ cD cR cT : ClassId) (kp : Nat → Nat) (L : List Nat) (f0 : Nat → va_E) (hTH : TH cI cJ cZ cD cR cT kp L f0) (sz : Nat) (h0 : Nat) (u1 : Int32) (rh0 : RK kp L h0 12) (pu1 : (0 : Int) ≤ u1.toInt ∧ u1.toInt ≤ 39) : Met l yX12_isGuarded (Cond.code yX12_isGuarded cX12_isGuarded 5 (some .boolean) :: wTab) ({ frames := 2, cells := 0, slots := 0, locals := 65 }) (va_Pc [.ref h0, .int u1] (PreW G (tys6 cI cJ cZ cD cR cT) (va_pl L f0) sz)) (QT (po_X12_isGuarded kp L f0 h0 u1) G cI cJ cZ cD cR cT (va_A (va_pl L f0) sz) kp L) 0 0 (va_A (va_pl L f0) sz) := by
  refine metT (by decide) (Nat.le_of_ble_eq_true rfl) hTH ?_
  intro p e s m below meth c A ls E hW hl
  obtain ⟨hx, hb, -, hml, hown, hts, -, -, -⟩ := id E
  have hF : FM kp L ms_X12_isGuarded f0 f0 := FM.rf
  have hl : lv_has ls 5 [(0, .ref h0), (1, .int u1)] := hl
  obtain ⟨pR, mR⟩ : ∃ x : Nat, oR (f0 h0) 2 = x := ⟨_, rfl⟩
  have rR : RK kp L pR 822 := by rw [← mR]; exact th_ref hTH rh0 (by decide) (by decide) rfl
  refine lv_iconst (v := 0) hx hb dX12_isGuarded_0 (by decide) ?_
  refine lv_istore_n (lv' := [(2, .int 0), (0, .ref h0), (1, .int u1)]) hx hb dX12_isGuarded_1 rfl hl (by decide) rfl (fun ls hl => ?_)
  refine lv_iconst (v := 0) hx hb dX12_isGuarded_2 (by decide) ?_
  refine lv_istore_n (lv' := [(3, .int 0), (2, .int 0), (0, .ref h0), (1, .int u1)]) hx hb dX12_isGuarded_3 rfl hl (by decide) rfl (fun ls hl => ?_)
  have L2425 : ∀ (n : Nat), ∀ (f2419 : Nat → va_E) (y2421 : Int32) (y2423 : Int32) (m2420 : oR (f2419 h0) 2 = pR) (b2422 : (0 : Int) ≤ y2421.toInt ∧ y2421.toInt ≤ 40) (b2424 : (0 : Int) ≤ y2423.toInt ∧ y2423.toInt ≤ 1) (hm : (41 : Int) - y2421.toInt ≤ n) (H : Heap) (locs : List Loc) (ls : Array Slot), WS G cI cJ cZ cD cR cT A kp L f2419 s H locs → FM kp L ms_X12_isGuarded f0 f2419 → lv_has ls 5 [(3, .int y2421), (2, .int y2423), (0, .ref h0), (1, .int u1)] → W p l e ({ frames := 2, cells := 0, slots := 0, locals := 65 }) s m ([.ref h0, .int u1] : List Value).toArray below meth c H locs 0 0 (MQ below (QT (po_X12_isGuarded kp L f0 h0 u1) G cI cJ cZ cD cR cT A kp L) ([.ref h0, .int u1] : List Value).toArray s 0 0 A) (F0 m 4 ls []) := by
    intro n
    induction n with
    | zero =>
      intro f2419 y2421 y2423 m2420 b2422 b2424 hm H locs ls hW hF hl
      have hz := i32_b y2421
      exfalso; omega
    | succ n ih =>
      intro f2419 y2421 y2423 m2420 b2422 b2424 hm H locs ls hW hF hl
      have ih4 := ih
      refine lv_iload_n hx hb dX12_isGuarded_4 rfl (lv_at hl 0 rfl) ?_
      refine lv_aload_n hx hb dX12_isGuarded_5 rfl (lv_at hl 2 rfl) ?_
      refine fg_RX12_8 E hW rh0 dX12_isGuarded_6 (fun a2426 m2427 r2428 => ?_)
      obtain rfl : pR = a2426 := (m2420).symm.trans m2427
      refine lv_bipush (v := 7) hx hb dX12_isGuarded_9 (by decide) ?_
      refine gl_822 E hW rR (by decide) dX12_isGuarded_11 (fun y2429 m2430 b2431 => ?_)
      have b2432 := rr_7 (show RowInv _ from b2431) m2430 (by decide)
      refine q_icmp_ge (tgt := 85) hx hb dX12_isGuarded_12 (by decide) rfl rfl (fun c2540 => ?_) (fun c2540 => ?_)
      · refine lv_iload_n hx hb dX12_isGuarded_85 rfl (lv_at hl 1 rfl) ?_
        exact e_Z E hW rfl (by omega) ⟨⟨_, rfl, (by first | omega | trivial)⟩, hF⟩ dX12_isGuarded_86
      · refine lv_sipush (v := 1044) hx hb dX12_isGuarded_15 (by decide) ?_
        refine lv_iconst (v := 3) hx hb dX12_isGuarded_18 (by decide) ?_
        refine lv_iload_n hx hb dX12_isGuarded_19 rfl (lv_at hl 0 rfl) ?_
        refine q_imul (X := 3) hx hb dX12_isGuarded_20 rfl rfl (by omega) (fun x2541 h2542 => ?_)
        refine q_iadd (X := 1044) hx hb dX12_isGuarded_21 rfl rfl (by omega) (fun x2543 h2544 => ?_)
        refine lv_istore (lv' := [(4, .int x2543), (3, .int y2421), (2, .int y2423), (0, .ref h0), (1, .int u1)]) hx hb dX12_isGuarded_22 hl (by decide) rfl (fun ls hl => ?_)
        refine lv_iload_n hx hb dX12_isGuarded_24 rfl (lv_at hl 2 rfl) ?_
        have J2597 : ∀ (f2592 : Nat → va_E) (y2595 : Int32) (m2593 : oR (f2592 h0) 2 = pR) (m2594 : aI (f2592 pR) (7 : Int32).toNatClampNeg = y2429) (b2596 : (0 : Int) ≤ y2595.toInt ∧ y2595.toInt ≤ 1) (H : Heap) (locs : List Loc) (ls : Array Slot), WS G cI cJ cZ cD cR cT A kp L f2592 s H locs → FM kp L ms_X12_isGuarded f0 f2592 → lv_has ls 5 [(4, .int x2543), (3, .int y2421), (2, .int y2423), (0, .ref h0), (1, .int u1)] → W p l e ({ frames := 2, cells := 0, slots := 0, locals := 65 }) s m ([.ref h0, .int u1] : List Value).toArray below meth c H locs 0 0 (MQ below (QT (po_X12_isGuarded kp L f0 h0 u1) G cI cJ cZ cD cR cT A kp L) ([.ref h0, .int u1] : List Value).toArray s 0 0 A) (F0 m 78 ls [.int y2595]) := by
          intro f2592 y2595 m2593 m2594 b2596 H locs ls hW hF hl
          refine lv_istore_n (lv' := [(2, .int y2595), (4, .int x2543), (3, .int y2421), (0, .ref h0), (1, .int u1)]) hx hb dX12_isGuarded_78 rfl hl (by decide) rfl (fun ls hl => ?_)
          refine q_iinc hx hb dX12_isGuarded_79 hl (k := 2) rfl rfl rfl (by omega) (by decide) (fun i2598 ls h2599 hl => ?_)
          have hl : lv_has ls 5 [(3, .int i2598), (2, .int y2595), (4, .int x2543), (0, .ref h0), (1, .int u1)] := hl
          refine lv_goto (tgt := 4) hx hb dX12_isGuarded_82 (by decide) ?_
          exact ih4 f2592 i2598 y2595 m2593 (by omega) (by omega) (by omega) _ _ _ hW hF (lv_sub hl [0, 1, 3, 4] rfl)
        refine q_if_ne (tgt := 73) hx hb dX12_isGuarded_25 (by decide) rfl (fun c2600 => ?_) (fun c2600 => ?_)
        · refine lv_iconst (v := 1) hx hb dX12_isGuarded_73 (by decide) ?_
          refine lv_goto (tgt := 78) hx hb dX12_isGuarded_74 (by decide) ?_
          exact J2597 f2419 1 m2427 m2430 (by decide) _ _ _ hW hF (lv_sub hl [0, 1, 2, 3, 4] rfl)
        · refine lv_aload_n hx hb dX12_isGuarded_28 rfl (lv_at hl 3 rfl) ?_
          refine fg_RX12_8 E hW rh0 dX12_isGuarded_29 (fun a2601 m2602 r2603 => ?_)
          obtain rfl : pR = a2601 := (m2427).symm.trans m2602
          refine lv_iload hx hb dX12_isGuarded_32 (lv_at hl 0 rfl) ?_
          refine gl_822 E hW rR ⟨by omega, by omega⟩ dX12_isGuarded_34 (fun y2604 m2605 b2606 => ?_)
          refine lv_iload_n hx hb dX12_isGuarded_35 rfl (lv_at hl 4 rfl) ?_
          refine q_icmp_ne (tgt := 77) hx hb dX12_isGuarded_36 (by decide) rfl rfl (fun c2607 => ?_) (fun c2607 => ?_)
          · refine lv_iconst (v := 0) hx hb dX12_isGuarded_77 (by decide) ?_
            exact J2597 f2419 0 m2602 m2430 (by decide) _ _ _ hW hF (lv_sub hl [0, 1, 2, 3, 4] rfl)
          · refine lv_aload_n hx hb dX12_isGuarded_39 rfl (lv_at hl 3 rfl) ?_
            refine fg_RX12_8 E hW rh0 dX12_isGuarded_40 (fun a2608 m2609 r2610 => ?_)
            obtain rfl : pR = a2608 := (m2602).symm.trans m2609
            refine lv_bipush (v := 8) hx hb dX12_isGuarded_43 (by decide) ?_
            refine gl_822 E hW rR (by decide) dX12_isGuarded_45 (fun y2611 m2612 b2613 => ?_)
            have b2614 := rr_8 (show RowInv _ from b2613) m2612 (by decide)
            refine q_i2l hx hb dX12_isGuarded_46 rfl (fun x2615 h2616 => ?_)
            refine lv_aload_n hx hb dX12_isGuarded_47 rfl (lv_at hl 3 rfl) ?_
            refine fg_RX12_8 E hW rh0 dX12_isGuarded_48 (fun a2617 m2618 r2619 => ?_)
            obtain rfl : pR = a2617 := (m2609).symm.trans m2618
            refine lv_iload hx hb dX12_isGuarded_51 (lv_at hl 0 rfl) ?_
            refine lv_iconst (v := 1) hx hb dX12_isGuarded_53 (by decide) ?_
            refine q_iadd (Y := 1) hx hb dX12_isGuarded_54 rfl rfl (by omega) (fun x2620 h2621 => ?_)
            refine gl_822 E hW rR ⟨by omega, by omega⟩ dX12_isGuarded_55 (fun y2622 m2623 b2624 => ?_)
            refine q_i2l hx hb dX12_isGuarded_56 rfl (fun x2625 h2626 => ?_)
            have hb2627 : -2147483648 ≤ x2625.toInt ∧ x2625.toInt ≤ 2147483647 := by have := i32_b y2622; omega
            refine lv_aload_n hx hb dX12_isGuarded_57 rfl (lv_at hl 3 rfl) ?_
            refine fg_RX12_8 E hW rh0 dX12_isGuarded_58 (fun a2628 m2629 r2630 => ?_)
            obtain rfl : pR = a2628 := (m2618).symm.trans m2629
            refine lv_iload hx hb dX12_isGuarded_61 (lv_at hl 0 rfl) ?_
            refine lv_iconst (v := 2) hx hb dX12_isGuarded_63 (by decide) ?_
            refine q_iadd (Y := 2) hx hb dX12_isGuarded_64 rfl rfl (by omega) (fun x2631 h2632 => ?_)
            refine gl_822 E hW rR ⟨by omega, by omega⟩ dX12_isGuarded_65 (fun y2633 m2634 b2635 => ?_)
            refine q_i2l hx hb dX12_isGuarded_66 rfl (fun x2636 h2637 => ?_)
            have hb2638 : -2147483648 ≤ x2636.toInt ∧ x2636.toInt ≤ 2147483647 := by have := i32_b y2633; omega
            refine t_callS (As := [.long x2615, .long x2625, .long x2636]) (rest := []) E hW (c_X12_in l G cI cJ cZ cD cR cT kp L f2419 hW.2.2.2 _ x2615 x2625 x2636) wk_X12_in tw_1554 rfl ⟨Nat.le_of_ble_eq_true rfl, Nat.le_of_ble_eq_true rfl⟩ ⟨rfl, rfl⟩ hl.1 rfl (Nat.le_of_ble_eq_true rfl) dX12_isGuarded_67 ⟨Nat.le_of_ble_eq_true rfl, Nat.le_of_ble_eq_true rfl⟩ (fun v2639 f2640 H locs q2641 hW => ?_)
            obtain ⟨⟨x2643, rfl, p2644⟩, g2642⟩ := q2641
            have hF := FM.tr hF g2642 rfl
            refine q_if_eq (tgt := 77) hx hb dX12_isGuarded_70 (by decide) rfl (fun c2645 => ?_) (fun c2645 => ?_)
            · have q2646 : (x2615.toInt < x2625.toInt ∨ x2636.toInt < x2615.toInt) := by omega
              clear p2644
              refine lv_iconst (v := 0) hx hb dX12_isGuarded_77 (by decide) ?_
              exact J2597 f2640 0 ((fm_R g2642 rh0 rfl).trans m2629) ((congrArg (fun z => aI z (7 : Int32).toNatClampNeg) (fm_A g2642 rR (by decide) rfl)).trans m2430) (by decide) _ _ _ hW hF (lv_sub hl [0, 1, 2, 3, 4] rfl)
            · have q2647 : x2625.toInt ≤ x2615.toInt ∧ x2615.toInt ≤ x2636.toInt := by omega
              clear p2644
              refine lv_iconst (v := 1) hx hb dX12_isGuarded_73 (by decide) ?_
              refine lv_goto (tgt := 78) hx hb dX12_isGuarded_74 (by decide) ?_
              exact J2597 f2640 1 ((fm_R g2642 rh0 rfl).trans m2629) ((congrArg (fun z => aI z (7 : Int32).toNatClampNeg) (fm_A g2642 rR (by decide) rfl)).trans m2430) (by decide) _ _ _ hW hF (lv_sub hl [0, 1, 2, 3, 4] rfl)
  have hk2648 : (0 : Int32).toInt = 0 := rfl
  have hk2649 : (0 : Int32).toInt = 0 := rfl
  exact L2425 41 f0 0 0 mR (by decide) (by decide) (by omega) _ _ _ hW hF (lv_sub hl [0, 1, 2, 3] rfl)
def rw_X12_avoid : List (Nat × Nat) := [(689, 1043)]
def ms_X12_avoid : List (Nat × Nat) := [(12, 0), (12, 1), (822, 0)]
def po_X12_avoid (kp : Nat → Nat) (L : List Nat) (f0 : Nat → va_E) (h0 : Nat) (u1 : Int32) : Option Value → (Nat → va_E) → Prop := fun v f => (∃ r : Int32, v = some (.int r) ∧ (True)) ∧ FM kp L ms_X12_avoid f0 f ∧ (RF rw_X12_avoid f0 f h0)
set_option maxHeartbeats 4000000 in
set_option maxRecDepth 100000 in
theorem c_X12_avoid (l : Launch) (G : va_G) (cI cJ cZ cD cR cT : ClassId) (kp : Nat → Nat) (L : List Nat) (f0 : Nat → va_E) (hTH : TH cI cJ cZ cD cR cT kp L f0) (sz : Nat) (h0 : Nat) (u1 : Int32) (rh0 : RK kp L h0 12) : Met l yX12_avoid (Cond.code yX12_avoid cX12_avoid 3 (some .int) :: wTab) ({ frames := 3, cells := 0, slots := 0, locals := 86 }) (va_Pc [.ref h0, .int u1] (PreW G (tys6 cI cJ cZ cD cR cT) (va_pl L f0) sz)) (QT (po_X12_avoid kp L f0 h0 u1) G cI cJ cZ cD cR cT (va_A (va_pl L f0) sz) kp L) 0 0 (va_A (va_pl L f0) sz) := by
  refine metT (by decide) (Nat.le_of_ble_eq_true rfl) hTH ?_
  intro p e s m below meth c A ls E hW hl
  obtain ⟨hx, hb, -, hml, hown, hts, -, -, -⟩ := id E
  have hF : FM kp L ms_X12_avoid f0 f0 := FM.rf
  have hl : lv_has ls 3 [(0, .ref h0), (1, .int u1)] := hl
  obtain ⟨pR, mR⟩ : ∃ x : Nat, oR (f0 h0) 2 = x := ⟨_, rfl⟩
  have rR : RK kp L pR 822 := by rw [← mR]; exact th_ref hTH rh0 (by decide) (by decide) rfl
  refine lv_aload_n hx hb dX12_avoid_0 rfl (lv_at hl 0 rfl) ?_
  refine lv_iconst (v := 0) hx hb dX12_avoid_1 (by decide) ?_
  refine fp_RX12_82 E hW rh0 dX12_avoid_2 (fun f1 H locs e2 n3 g4 hW => ?_)
  have z5 : RF rw_X12_avoid f0 f1 h0 := rf_fm hTH rf_rf g4 rh0 rfl
  have hF := FM.tr hF g4 rfl
  refine lv_aload_n hx hb dX12_avoid_5 rfl (lv_at hl 0 rfl) ?_
  refine lv_iload_n hx hb dX12_avoid_6 rfl (lv_at hl 1 rfl) ?_
  refine t_callV (As := [.int u1]) (rest := []) E hW (c_X12_isField l G cI cJ cZ cD cR cT kp L f1 hW.2.2.2 _ h0 u1 rh0) rh0 (by decide) rfl wk_X12_isField tw_1639 rfl ⟨Nat.le_of_ble_eq_true rfl, Nat.le_of_ble_eq_true rfl⟩ ⟨rfl, rfl⟩ hl.1 rfl (Nat.le_of_ble_eq_true rfl) dX12_avoid_7 ⟨Nat.le_of_ble_eq_true rfl, Nat.le_of_ble_eq_true rfl⟩ (fun v6 f7 H locs q8 hW => ?_)
  obtain ⟨⟨x10, rfl, p11⟩, g9⟩ := q8
  have z12 : RF rw_X12_avoid f0 f7 h0 := rf_fm hTH z5 g9 rh0 rfl
  have hF := FM.tr hF g9 rfl
  refine q_if_ne (tgt := 20) hx hb dX12_avoid_10 (by decide) rfl (fun c13 => ?_) (fun c13 => ?_)
  · have q14 : 0 ≤ u1.toInt ∧ u1.toInt ≤ 39 := by omega
    clear p11
    refine lv_aload_n hx hb dX12_avoid_20 rfl (lv_at hl 0 rfl) ?_
    refine lv_iload_n hx hb dX12_avoid_21 rfl (lv_at hl 1 rfl) ?_
    refine t_callV (As := [.int u1]) (rest := []) E hW (c_X12_writOf l G cI cJ cZ cD cR cT kp L f7 hW.2.2.2 _ h0 u1 rh0 (by omega)) rh0 (by decide) rfl wk_X12_writOf tw_1643 rfl ⟨Nat.le_of_ble_eq_true rfl, Nat.le_of_ble_eq_true rfl⟩ ⟨rfl, rfl⟩ hl.1 rfl (Nat.le_of_ble_eq_true rfl) dX12_avoid_22 ⟨Nat.le_of_ble_eq_true rfl, Nat.le_of_ble_eq_true rfl⟩ (fun v15 f16 H locs q17 hW => ?_)
    obtain ⟨⟨x19, rfl, p20⟩, g18⟩ := q17
    have z21 : RF rw_X12_avoid f0 f16 h0 := rf_fm hTH z12 g18 rh0 rfl
    have hF := FM.tr hF g18 rfl
    refine lv_istore_n (lv' := [(2, .int x19), (0, .ref h0), (1, .int u1)]) hx hb dX12_avoid_25 rfl hl (by decide) rfl (fun ls hl => ?_)
    refine lv_iload_n hx hb dX12_avoid_26 rfl (lv_at hl 0 rfl) ?_
    refine lv_iconst (v := (-1)) hx hb dX12_avoid_27 (by decide) ?_
    refine q_icmp_ne (Y := -1) (tgt := 38) hx hb dX12_avoid_28 (by decide) rfl rfl (fun c22 => ?_) (fun c22 => ?_)
    · refine lv_aload_n hx hb dX12_avoid_38 rfl (lv_at hl 1 rfl) ?_
      refine fg_RX12_8 E hW rh0 dX12_avoid_39 (fun a23 m24 r25 => ?_)
      obtain rfl : pR = a23 := (((fm_R g18 rh0 rfl).trans ((fm_R g9 rh0 rfl).trans ((fm_R g4 rh0 rfl).trans mR)))).symm.trans m24
      refine lv_sipush (v := 684) hx hb dX12_avoid_42 (by decide) ?_
      refine lv_bipush (v := 6) hx hb dX12_avoid_45 (by decide) ?_
      refine lv_iload_n hx hb dX12_avoid_47 rfl (lv_at hl 0 rfl) ?_
      refine q_imul (X := 6) hx hb dX12_avoid_48 rfl rfl (by omega) (fun x26 h27 => ?_)
      refine q_iadd (X := 684) hx hb dX12_avoid_49 rfl rfl (by omega) (fun x28 h29 => ?_)
      refine lv_iconst (v := 5) hx hb dX12_avoid_50 (by decide) ?_
      refine q_iadd (Y := 5) hx hb dX12_avoid_51 rfl rfl (by omega) (fun x30 h31 => ?_)
      refine lv_iconst (v := 1) hx hb dX12_avoid_52 (by decide) ?_
      have hk32 : (1 : Int32).toInt = 1 := rfl
      refine gs_822 E hW rR ⟨by omega, by omega⟩ (fun hc => rr_up hc (by omega) (by omega) (by unfold rbI; omega)) dX12_avoid_53 (fun f33 H locs e34 n35 g36 hW => ?_)
      have z37 : RF rw_X12_avoid f0 f33 h0 := rf_st (lo := 689) (hi := 1043) z21 mR e34 (by omega) rfl
      have hF := FM.tr hF g36 rfl
      refine lv_aload_n hx hb dX12_avoid_54 rfl (lv_at hl 1 rfl) ?_
      refine lv_iconst (v := 0) hx hb dX12_avoid_55 (by decide) ?_
      refine t_callV (As := [.int 0]) (rest := []) E hW (c_X12_told l G cI cJ cZ cD cR cT kp L f33 hW.2.2.2 _ h0 0 rh0) rh0 (by decide) rfl wk_X12_told tw_1557 rfl ⟨Nat.le_of_ble_eq_true rfl, Nat.le_of_ble_eq_true rfl⟩ ⟨rfl, rfl⟩ hl.1 rfl (Nat.le_of_ble_eq_true rfl) dX12_avoid_56 ⟨Nat.le_of_ble_eq_true rfl, Nat.le_of_ble_eq_true rfl⟩ (fun v38 f39 H locs q40 hW => ?_)
      obtain ⟨⟨x42, rfl, p43⟩, g41⟩ := q40
      clear p43
      have z44 : RF rw_X12_avoid f0 f39 h0 := rf_fm hTH z37 g41 rh0 rfl
      have hF := FM.tr hF g41 rfl
      exact e_I E hW rfl ⟨⟨_, rfl, trivial⟩, hF, z44⟩ dX12_avoid_59
    · refine lv_aload_n hx hb dX12_avoid_31 rfl (lv_at hl 1 rfl) ?_
      refine lv_bipush (v := (-3)) hx hb dX12_avoid_32 (by decide) ?_
      refine t_callV (As := [.int (-3)]) (rest := []) E hW (c_X12_told l G cI cJ cZ cD cR cT kp L f16 hW.2.2.2 _ h0 (-3) rh0) rh0 (by decide) rfl wk_X12_told tw_1557 rfl ⟨Nat.le_of_ble_eq_true rfl, Nat.le_of_ble_eq_true rfl⟩ ⟨rfl, rfl⟩ hl.1 rfl (Nat.le_of_ble_eq_true rfl) dX12_avoid_34 ⟨Nat.le_of_ble_eq_true rfl, Nat.le_of_ble_eq_true rfl⟩ (fun v45 f46 H locs q47 hW => ?_)
      obtain ⟨⟨x49, rfl, p50⟩, g48⟩ := q47
      clear p50
      have z51 : RF rw_X12_avoid f0 f46 h0 := rf_fm hTH z21 g48 rh0 rfl
      have hF := FM.tr hF g48 rfl
      exact e_I E hW rfl ⟨⟨_, rfl, trivial⟩, hF, z51⟩ dX12_avoid_37
  · clear p11
    refine lv_aload_n hx hb dX12_avoid_13 rfl (lv_at hl 0 rfl) ?_
    refine lv_bipush (v := (-2)) hx hb dX12_avoid_14 (by decide) ?_
    refine t_callV (As := [.int (-2)]) (rest := []) E hW (c_X12_told l G cI cJ cZ cD cR cT kp L f7 hW.2.2.2 _ h0 (-2) rh0) rh0 (by decide) rfl wk_X12_told tw_1557 rfl ⟨Nat.le_of_ble_eq_true rfl, Nat.le_of_ble_eq_true rfl⟩ ⟨rfl, rfl⟩ hl.1 rfl (Nat.le_of_ble_eq_true rfl) dX12_avoid_16 ⟨Nat.le_of_ble_eq_true rfl, Nat.le_of_ble_eq_true rfl⟩ (fun v52 f53 H locs q54 hW => ?_)
    obtain ⟨⟨x56, rfl, p57⟩, g55⟩ := q54
    clear p57
    have z58 : RF rw_X12_avoid f0 f53 h0 := rf_fm hTH z12 g55 rh0 rfl
    have hF := FM.tr hF g55 rfl
    exact e_I E hW rfl ⟨⟨_, rfl, trivial⟩, hF, z58⟩ dX12_avoid_19
def rw_X12_guard : List (Nat × Nat) := [(7, 7), (1044, 1163)]
def ms_X12_guard : List (Nat × Nat) := [(12, 0), (12, 1), (822, 0)]
def po_X12_guard (kp : Nat → Nat) (L : List Nat) (f0 : Nat → va_E) (h0 : Nat) (u1 : Int32) (u2 : Int32) (u3 : Int32) : Option Value → (Nat → va_E) → Prop := fun v f => (∃ r : Int32, v = some (.int r) ∧ (True)) ∧ FM kp L ms_X12_guard f0 f ∧ (RF rw_X12_guard f0 f h0)
set_option maxHeartbeats 4000000 in
set_option maxRecDepth 100000 in
theorem c_X12_guard (l : Launch) (G : va_G) (cI cJ cZ cD cR cT : ClassId) (kp : Nat → Nat) (L : List Nat) (f0 : Nat → va_E) (hTH : TH cI cJ cZ cD cR cT kp L f0) (sz : Nat) (h0 : Nat) (u1 : Int32) (u2 : Int32) (u3 : Int32) (rh0 : RK kp L h0 12) : Met l yX12_guard (Cond.code yX12_guard cX12_guard 5 (some .int) :: wTab) ({ frames := 3, cells := 0, slots := 0, locals := 86 }) (va_Pc [.ref h0, .int u1, .int u2, .int u3] (PreW G (tys6 cI cJ cZ cD cR cT) (va_pl L f0) sz)) (QT (po_X12_guard kp L f0 h0 u1 u2 u3) G cI cJ cZ cD cR cT (va_A (va_pl L f0) sz) kp L) 0 0 (va_A (va_pl L f0) sz) := by
  refine metT (by decide) (Nat.le_of_ble_eq_true rfl) hTH ?_
  intro p e s m below meth c A ls E hW hl
  obtain ⟨hx, hb, -, hml, hown, hts, -, -, -⟩ := id E
  have hF : FM kp L ms_X12_guard f0 f0 := FM.rf
  have hl : lv_has ls 5 [(0, .ref h0), (1, .int u1), (2, .int u2), (3, .int u3)] := hl
  obtain ⟨pR, mR⟩ : ∃ x : Nat, oR (f0 h0) 2 = x := ⟨_, rfl⟩
  have rR : RK kp L pR 822 := by rw [← mR]; exact th_ref hTH rh0 (by decide) (by decide) rfl
  refine lv_aload_n hx hb dX12_guard_0 rfl (lv_at hl 0 rfl) ?_
  refine lv_iconst (v := 0) hx hb dX12_guard_1 (by decide) ?_
  refine fp_RX12_82 E hW rh0 dX12_guard_2 (fun f1 H locs e2 n3 g4 hW => ?_)
  have z5 : RF rw_X12_guard f0 f1 h0 := rf_fm hTH rf_rf g4 rh0 rfl
  have hF := FM.tr hF g4 rfl
  refine lv_iload_n hx hb dX12_guard_5 rfl (lv_at hl 3 rfl) ?_
  refine t_callS (As := [.int u3]) (rest := []) E hW (c_X12_isWeek l G cI cJ cZ cD cR cT kp L f1 hW.2.2.2 _ u3) wk_X12_isWeek tw_1719 rfl ⟨Nat.le_of_ble_eq_true rfl, Nat.le_of_ble_eq_true rfl⟩ ⟨rfl, rfl⟩ hl.1 rfl (Nat.le_of_ble_eq_true rfl) dX12_guard_6 ⟨Nat.le_of_ble_eq_true rfl, Nat.le_of_ble_eq_true rfl⟩ (fun v6 f7 H locs q8 hW => ?_)
  obtain ⟨⟨x10, rfl, p11⟩, g9⟩ := q8
  have z12 : RF rw_X12_guard f0 f7 h0 := rf_fm hTH z5 g9 rh0 rfl
  have hF := FM.tr hF g9 rfl
  refine q_if_eq (tgt := 23) hx hb dX12_guard_9 (by decide) rfl (fun c13 => ?_) (fun c13 => ?_)
  · have q14 : (u3.toInt < 0 ∨ 399 < u3.toInt) := by omega
    clear p11
    refine lv_aload_n hx hb dX12_guard_23 rfl (lv_at hl 0 rfl) ?_
    refine lv_iconst (v := (-1)) hx hb dX12_guard_24 (by decide) ?_
    refine t_callV (As := [.int (-1)]) (rest := []) E hW (c_X12_told l G cI cJ cZ cD cR cT kp L f7 hW.2.2.2 _ h0 (-1) rh0) rh0 (by decide) rfl wk_X12_told tw_1557 rfl ⟨Nat.le_of_ble_eq_true rfl, Nat.le_of_ble_eq_true rfl⟩ ⟨rfl, rfl⟩ hl.1 rfl (Nat.le_of_ble_eq_true rfl) dX12_guard_25 ⟨Nat.le_of_ble_eq_true rfl, Nat.le_of_ble_eq_true rfl⟩ (fun v15 f16 H locs q17 hW => ?_)
    obtain ⟨⟨x19, rfl, p20⟩, g18⟩ := q17
    clear p20
    have z21 : RF rw_X12_guard f0 f16 h0 := rf_fm hTH z12 g18 rh0 rfl
    have hF := FM.tr hF g18 rfl
    exact e_I E hW rfl ⟨⟨_, rfl, trivial⟩, hF, z21⟩ dX12_guard_28
  · have q22 : 0 ≤ u3.toInt ∧ u3.toInt ≤ 399 := by omega
    clear p11
    refine lv_iload_n hx hb dX12_guard_12 rfl (lv_at hl 2 rfl) ?_
    refine q_i2l hx hb dX12_guard_13 rfl (fun x23 h24 => ?_)
    have hb25 : -2147483648 ≤ x23.toInt ∧ x23.toInt ≤ 2147483647 := by have := i32_b u2; omega
    refine lv_lconst (v := 0) hx hb dX12_guard_14 (by decide) ?_
    refine lv_iload_n hx hb dX12_guard_15 rfl (lv_at hl 3 rfl) ?_
    refine q_i2l hx hb dX12_guard_16 rfl (fun x26 h27 => ?_)
    refine t_callS (As := [.long x23, .long 0, .long x26]) (rest := []) E hW (c_X12_in l G cI cJ cZ cD cR cT kp L f7 hW.2.2.2 _ x23 0 x26) wk_X12_in tw_1554 rfl ⟨Nat.le_of_ble_eq_true rfl, Nat.le_of_ble_eq_true rfl⟩ ⟨rfl, rfl⟩ hl.1 rfl (Nat.le_of_ble_eq_true rfl) dX12_guard_17 ⟨Nat.le_of_ble_eq_true rfl, Nat.le_of_ble_eq_true rfl⟩ (fun v28 f29 H locs q30 hW => ?_)
    obtain ⟨⟨x32, rfl, p33⟩, g31⟩ := q30
    have p33 : (x32.toInt = 1 ∧ 0 ≤ x23.toInt ∧ x23.toInt ≤ x26.toInt) ∨ (x32.toInt = 0 ∧ (x23.toInt < 0 ∨ x26.toInt < x23.toInt)) := p33
    have z34 : RF rw_X12_guard f0 f29 h0 := rf_fm hTH z12 g31 rh0 rfl
    have hF := FM.tr hF g31 rfl
    refine q_if_ne (tgt := 29) hx hb dX12_guard_20 (by decide) rfl (fun c35 => ?_) (fun c35 => ?_)
    · have q36 : 0 ≤ x23.toInt ∧ x23.toInt ≤ x26.toInt := by omega
      clear p33
      refine lv_aload_n hx hb dX12_guard_29 rfl (lv_at hl 0 rfl) ?_
      refine lv_iload_n hx hb dX12_guard_30 rfl (lv_at hl 1 rfl) ?_
      refine t_callV (As := [.int u1]) (rest := []) E hW (c_X12_isField l G cI cJ cZ cD cR cT kp L f29 hW.2.2.2 _ h0 u1 rh0) rh0 (by decide) rfl wk_X12_isField tw_1639 rfl ⟨Nat.le_of_ble_eq_true rfl, Nat.le_of_ble_eq_true rfl⟩ ⟨rfl, rfl⟩ hl.1 rfl (Nat.le_of_ble_eq_true rfl) dX12_guard_31 ⟨Nat.le_of_ble_eq_true rfl, Nat.le_of_ble_eq_true rfl⟩ (fun v37 f38 H locs q39 hW => ?_)
      obtain ⟨⟨x41, rfl, p42⟩, g40⟩ := q39
      have z43 : RF rw_X12_guard f0 f38 h0 := rf_fm hTH z34 g40 rh0 rfl
      have hF := FM.tr hF g40 rfl
      refine q_if_ne (tgt := 44) hx hb dX12_guard_34 (by decide) rfl (fun c44 => ?_) (fun c44 => ?_)
      · have q45 : 0 ≤ u1.toInt ∧ u1.toInt ≤ 39 := by omega
        clear p42
        refine lv_aload_n hx hb dX12_guard_44 rfl (lv_at hl 0 rfl) ?_
        refine fg_RX12_8 E hW rh0 dX12_guard_45 (fun a46 m47 r48 => ?_)
        obtain rfl : pR = a46 := (((fm_R g40 rh0 rfl).trans ((fm_R g31 rh0 rfl).trans ((fm_R g9 rh0 rfl).trans ((fm_R g4 rh0 rfl).trans mR))))).symm.trans m47
        refine lv_bipush (v := 7) hx hb dX12_guard_48 (by decide) ?_
        refine gl_822 E hW rR (by decide) dX12_guard_50 (fun y49 m50 b51 => ?_)
        have b52 := rr_7 (show RowInv _ from b51) m50 (by decide)
        refine lv_bipush (v := 40) hx hb dX12_guard_51 (by decide) ?_
        refine q_icmp_ne (Y := 40) (tgt := 63) hx hb dX12_guard_53 (by decide) rfl rfl (fun c53 => ?_) (fun c53 => ?_)
        · refine lv_sipush (v := 1044) hx hb dX12_guard_63 (by decide) ?_
          refine lv_iconst (v := 3) hx hb dX12_guard_66 (by decide) ?_
          refine lv_aload_n hx hb dX12_guard_67 rfl (lv_at hl 0 rfl) ?_
          refine fg_RX12_8 E hW rh0 dX12_guard_68 (fun a54 m55 r56 => ?_)
          obtain rfl : pR = a54 := (m47).symm.trans m55
          refine lv_bipush (v := 7) hx hb dX12_guard_71 (by decide) ?_
          refine gl_822 E hW rR (by decide) dX12_guard_73 (fun y57 m58 b59 => ?_)
          obtain rfl : y49 = y57 := (m50).symm.trans m58
          refine q_imul (X := 3) hx hb dX12_guard_74 rfl rfl (by omega) (fun x60 h61 => ?_)
          refine q_iadd (X := 1044) hx hb dX12_guard_75 rfl rfl (by omega) (fun x62 h63 => ?_)
          refine lv_istore (lv' := [(4, .int x62), (0, .ref h0), (1, .int u1), (2, .int u2), (3, .int u3)]) hx hb dX12_guard_76 hl (by decide) rfl (fun ls hl => ?_)
          refine lv_aload_n hx hb dX12_guard_78 rfl (lv_at hl 1 rfl) ?_
          refine fg_RX12_8 E hW rh0 dX12_guard_79 (fun a64 m65 r66 => ?_)
          obtain rfl : pR = a64 := (m55).symm.trans m65
          refine lv_iload hx hb dX12_guard_82 (lv_at hl 0 rfl) ?_
          refine lv_iload_n hx hb dX12_guard_84 rfl (lv_at hl 2 rfl) ?_
          refine gs_822 E hW rR ⟨by omega, by omega⟩ (fun hc => rr_up hc (by omega) (by omega) (by unfold rbI; omega)) dX12_guard_85 (fun f67 H locs e68 n69 g70 hW => ?_)
          have z71 : RF rw_X12_guard f0 f67 h0 := rf_st (lo := 1044) (hi := 1161) z43 mR e68 (by omega) rfl
          have hF := FM.tr hF g70 rfl
          refine lv_aload_n hx hb dX12_guard_86 rfl (lv_at hl 1 rfl) ?_
          refine fg_RX12_8 E hW rh0 dX12_guard_87 (fun a72 m73 r74 => ?_)
          obtain rfl : pR = a72 := (((fm_R g70 rh0 rfl).trans m65)).symm.trans m73
          refine lv_iload hx hb dX12_guard_90 (lv_at hl 0 rfl) ?_
          refine lv_iconst (v := 1) hx hb dX12_guard_92 (by decide) ?_
          refine q_iadd (Y := 1) hx hb dX12_guard_93 rfl rfl (by omega) (fun x75 h76 => ?_)
          refine lv_iload_n hx hb dX12_guard_94 rfl (lv_at hl 3 rfl) ?_
          refine gs_822 E hW rR ⟨by omega, by omega⟩ (fun hc => rr_up hc (by omega) (by omega) (by unfold rbI; omega)) dX12_guard_95 (fun f77 H locs e78 n79 g80 hW => ?_)
          have z81 : RF rw_X12_guard f0 f77 h0 := rf_st (lo := 1045) (hi := 1162) z71 mR e78 (by omega) rfl
          have hF := FM.tr hF g80 rfl
          refine lv_aload_n hx hb dX12_guard_96 rfl (lv_at hl 1 rfl) ?_
          refine fg_RX12_8 E hW rh0 dX12_guard_97 (fun a82 m83 r84 => ?_)
          obtain rfl : pR = a82 := (((fm_R g80 rh0 rfl).trans m73)).symm.trans m83
          refine lv_iload hx hb dX12_guard_100 (lv_at hl 0 rfl) ?_
          refine lv_iconst (v := 2) hx hb dX12_guard_102 (by decide) ?_
          refine q_iadd (Y := 2) hx hb dX12_guard_103 rfl rfl (by omega) (fun x85 h86 => ?_)
          refine lv_iload_n hx hb dX12_guard_104 rfl (lv_at hl 4 rfl) ?_
          refine gs_822 E hW rR ⟨by omega, by omega⟩ (fun hc => rr_up hc (by omega) (by omega) (by unfold rbI; omega)) dX12_guard_105 (fun f87 H locs e88 n89 g90 hW => ?_)
          have z91 : RF rw_X12_guard f0 f87 h0 := rf_st (lo := 1046) (hi := 1163) z81 mR e88 (by omega) rfl
          have hF := FM.tr hF g90 rfl
          refine lv_aload_n hx hb dX12_guard_106 rfl (lv_at hl 1 rfl) ?_
          refine fg_RX12_8 E hW rh0 dX12_guard_107 (fun a92 m93 r94 => ?_)
          obtain rfl : pR = a92 := (((fm_R g90 rh0 rfl).trans m83)).symm.trans m93
          refine lv_bipush (v := 7) hx hb dX12_guard_110 (by decide) ?_
          refine lv_dup2_11 hx hb dX12_guard_112 rfl rfl ?_
          refine gl_822 E hW rR (by decide) dX12_guard_113 (fun y95 m96 b97 => ?_)
          obtain rfl : y49 = y95 := ((show aI (f87 pR) (7 : Int32).toNatClampNeg = y49 from by rw [e88, up_n (tn_ne (by omega) (by decide) (by have hk0 : (7 : Int32).toInt = 7 := rfl; omega))]; exact (show aI (f77 pR) (7 : Int32).toNatClampNeg = y49 from by rw [e78, up_n (tn_ne (by omega) (by decide) (by have hk0 : (7 : Int32).toInt = 7 := rfl; omega))]; exact (show aI (f67 pR) (7 : Int32).toNatClampNeg = y49 from by rw [e68, up_n (tn_ne (by omega) (by decide) (by have hk0 : (7 : Int32).toInt = 7 := rfl; omega))]; exact m58)))).symm.trans m96
          refine lv_iconst (v := 1) hx hb dX12_guard_114 (by decide) ?_
          refine q_iadd (Y := 1) hx hb dX12_guard_115 rfl rfl (by omega) (fun x98 h99 => ?_)
          have hk100 : (7 : Int32).toInt = 7 := rfl
          refine gs_822 E hW rR (by decide) (fun hc => rr_up hc (by omega) (by omega) (by unfold rbI; omega)) dX12_guard_116 (fun f101 H locs e102 n103 g104 hW => ?_)
          have m105 : oI (f101 h0) 0 = 0 := ((fm_I g104 rh0 rfl).trans ((fm_I g90 rh0 rfl).trans ((fm_I g80 rh0 rfl).trans ((fm_I g70 rh0 rfl).trans ((fm_I g40 rh0 rfl).trans ((fm_I g31 rh0 rfl).trans ((fm_I g9 rh0 rfl).trans e2)))))))
          have z106 : RF rw_X12_guard f0 f101 h0 := rf_st (lo := 7) (hi := 7) z91 mR e102 (by decide) rfl
          have hF := FM.tr hF g104 rfl
          refine lv_aload_n hx hb dX12_guard_117 rfl (lv_at hl 1 rfl) ?_
          refine lv_aload_n hx hb dX12_guard_118 rfl (lv_at hl 1 rfl) ?_
          refine fg_RX12_8 E hW rh0 dX12_guard_119 (fun a107 m108 r109 => ?_)
          obtain rfl : pR = a107 := (((fm_R g104 rh0 rfl).trans m93)).symm.trans m108
          refine lv_bipush (v := 7) hx hb dX12_guard_122 (by decide) ?_
          refine gl_822 E hW rR (by decide) dX12_guard_124 (fun y110 m111 b112 => ?_)
          obtain rfl : x98 = y110 := ((show aI (f101 pR) (7 : Int32).toNatClampNeg = x98 from by rw [e102]; exact up_s)).symm.trans m111
          refine t_callV (As := [.int x98]) (rest := []) E hW (c_X12_told l G cI cJ cZ cD cR cT kp L f101 hW.2.2.2 _ h0 x98 rh0) rh0 (by decide) rfl wk_X12_told tw_1557 rfl ⟨Nat.le_of_ble_eq_true rfl, Nat.le_of_ble_eq_true rfl⟩ ⟨rfl, rfl⟩ hl.1 rfl (Nat.le_of_ble_eq_true rfl) dX12_guard_125 ⟨Nat.le_of_ble_eq_true rfl, Nat.le_of_ble_eq_true rfl⟩ (fun v113 f114 H locs q115 hW => ?_)
          obtain ⟨⟨x117, rfl, p118⟩, g116⟩ := q115
          clear p118
          have m119 : aI (f114 pR) (x62 : Int32).toNatClampNeg = u1 := ((congrArg (fun z => aI z (x62 : Int32).toNatClampNeg) (fm_A g116 rR (by decide) rfl)).trans (show aI (f101 pR) (x62 : Int32).toNatClampNeg = u1 from by rw [e102, up_n (tn_ne (by decide) (by omega) (by have hk0 : (7 : Int32).toInt = 7 := rfl; omega))]; exact (show aI (f87 pR) (x62 : Int32).toNatClampNeg = u1 from by rw [e88, up_n (tn_ne (by omega) (by omega) (by omega))]; exact (show aI (f77 pR) (x62 : Int32).toNatClampNeg = u1 from by rw [e78, up_n (tn_ne (by omega) (by omega) (by omega))]; exact (show aI (f67 pR) (x62 : Int32).toNatClampNeg = u1 from by rw [e68]; exact up_s)))))
          have m120 : aI (f114 pR) (x75 : Int32).toNatClampNeg = u2 := ((congrArg (fun z => aI z (x75 : Int32).toNatClampNeg) (fm_A g116 rR (by decide) rfl)).trans (show aI (f101 pR) (x75 : Int32).toNatClampNeg = u2 from by rw [e102, up_n (tn_ne (by decide) (by omega) (by have hk0 : (7 : Int32).toInt = 7 := rfl; omega))]; exact (show aI (f87 pR) (x75 : Int32).toNatClampNeg = u2 from by rw [e88, up_n (tn_ne (by omega) (by omega) (by omega))]; exact (show aI (f77 pR) (x75 : Int32).toNatClampNeg = u2 from by rw [e78]; exact up_s))))
          have m121 : aI (f114 pR) (x85 : Int32).toNatClampNeg = u3 := ((congrArg (fun z => aI z (x85 : Int32).toNatClampNeg) (fm_A g116 rR (by decide) rfl)).trans (show aI (f101 pR) (x85 : Int32).toNatClampNeg = u3 from by rw [e102, up_n (tn_ne (by decide) (by omega) (by have hk0 : (7 : Int32).toInt = 7 := rfl; omega))]; exact (show aI (f87 pR) (x85 : Int32).toNatClampNeg = u3 from by rw [e88]; exact up_s)))
          have z122 : RF rw_X12_guard f0 f114 h0 := rf_fm hTH z106 g116 rh0 rfl
          have hF := FM.tr hF g116 rfl
          exact e_I E hW rfl ⟨⟨_, rfl, trivial⟩, hF, z122⟩ dX12_guard_128
        · refine lv_aload_n hx hb dX12_guard_56 rfl (lv_at hl 0 rfl) ?_
          refine lv_bipush (v := (-5)) hx hb dX12_guard_57 (by decide) ?_
          refine t_callV (As := [.int (-5)]) (rest := []) E hW (c_X12_told l G cI cJ cZ cD cR cT kp L f38 hW.2.2.2 _ h0 (-5) rh0) rh0 (by decide) rfl wk_X12_told tw_1557 rfl ⟨Nat.le_of_ble_eq_true rfl, Nat.le_of_ble_eq_true rfl⟩ ⟨rfl, rfl⟩ hl.1 rfl (Nat.le_of_ble_eq_true rfl) dX12_guard_59 ⟨Nat.le_of_ble_eq_true rfl, Nat.le_of_ble_eq_true rfl⟩ (fun v123 f124 H locs q125 hW => ?_)
          obtain ⟨⟨x127, rfl, p128⟩, g126⟩ := q125
          clear p128
          have z129 : RF rw_X12_guard f0 f124 h0 := rf_fm hTH z43 g126 rh0 rfl
          have hF := FM.tr hF g126 rfl
          exact e_I E hW rfl ⟨⟨_, rfl, trivial⟩, hF, z129⟩ dX12_guard_62
      · clear p42
        refine lv_aload_n hx hb dX12_guard_37 rfl (lv_at hl 0 rfl) ?_
        refine lv_bipush (v := (-2)) hx hb dX12_guard_38 (by decide) ?_
        refine t_callV (As := [.int (-2)]) (rest := []) E hW (c_X12_told l G cI cJ cZ cD cR cT kp L f38 hW.2.2.2 _ h0 (-2) rh0) rh0 (by decide) rfl wk_X12_told tw_1557 rfl ⟨Nat.le_of_ble_eq_true rfl, Nat.le_of_ble_eq_true rfl⟩ ⟨rfl, rfl⟩ hl.1 rfl (Nat.le_of_ble_eq_true rfl) dX12_guard_40 ⟨Nat.le_of_ble_eq_true rfl, Nat.le_of_ble_eq_true rfl⟩ (fun v130 f131 H locs q132 hW => ?_)
        obtain ⟨⟨x134, rfl, p135⟩, g133⟩ := q132
        clear p135
        have z136 : RF rw_X12_guard f0 f131 h0 := rf_fm hTH z43 g133 rh0 rfl
        have hF := FM.tr hF g133 rfl
        exact e_I E hW rfl ⟨⟨_, rfl, trivial⟩, hF, z136⟩ dX12_guard_43
    · have q137 : (x23.toInt < 0 ∨ x26.toInt < x23.toInt) := by omega
      clear p33
      refine lv_aload_n hx hb dX12_guard_23 rfl (lv_at hl 0 rfl) ?_
      refine lv_iconst (v := (-1)) hx hb dX12_guard_24 (by decide) ?_
      refine t_callV (As := [.int (-1)]) (rest := []) E hW (c_X12_told l G cI cJ cZ cD cR cT kp L f29 hW.2.2.2 _ h0 (-1) rh0) rh0 (by decide) rfl wk_X12_told tw_1557 rfl ⟨Nat.le_of_ble_eq_true rfl, Nat.le_of_ble_eq_true rfl⟩ ⟨rfl, rfl⟩ hl.1 rfl (Nat.le_of_ble_eq_true rfl) dX12_guard_25 ⟨Nat.le_of_ble_eq_true rfl, Nat.le_of_ble_eq_true rfl⟩ (fun v138 f139 H locs q140 hW => ?_)
      obtain ⟨⟨x142, rfl, p143⟩, g141⟩ := q140
      clear p143
      have z144 : RF rw_X12_guard f0 f139 h0 := rf_fm hTH z34 g141 rh0 rfl
      have hF := FM.tr hF g141 rfl
      exact e_I E hW rfl ⟨⟨_, rfl, trivial⟩, hF, z144⟩ dX12_guard_28
def ms_X12_keepsBan : List (Nat × Nat) := []
def po_X12_keepsBan (kp : Nat → Nat) (L : List Nat) (f0 : Nat → va_E) (h0 : Nat) (u1 : Int32) (u2 : Int32) : Option Value → (Nat → va_E) → Prop := fun v f => (∃ r : Int32, v = some (.int r) ∧ ((0 : Int) ≤ r.toInt ∧ r.toInt ≤ 1)) ∧ FM kp L ms_X12_keepsBan f0 f
set_option maxHeartbeats 4000000 in
set_option maxRecDepth 100000 in
theorem c_X12_keepsBan (l : Launch) (G : va_G) (cI cJ cZ cD cR cT : ClassId) (kp : Nat → Nat) (L : List Nat) (f0 : Nat → va_E) (hTH : TH cI cJ cZ cD cR cT kp L f0) (sz : Nat) (h0 : Nat) (u1 : Int32) (u2 : Int32) (rh0 : RK kp L h0 12) (pu1 : (0 : Int) ≤ u1.toInt ∧ u1.toInt ≤ 39) (pu2 : (0 : Int) ≤ u2.toInt ∧ u2.toInt ≤ 39) : Met l yX12_keepsBan (Cond.code yX12_keepsBan cX12_keepsBan 5 (some .boolean) :: wTab) ({ frames := 2, cells := 0, slots := 0, locals := 60 }) (va_Pc [.ref h0, .int u1, .int u2] (PreW G (tys6 cI cJ cZ cD cR cT) (va_pl L f0) sz)) (QT (po_X12_keepsBan kp L f0 h0 u1 u2) G cI cJ cZ cD cR cT (va_A (va_pl L f0) sz) kp L) 0 0 (va_A (va_pl L f0) sz) := by
  refine metT (by decide) (Nat.le_of_ble_eq_true rfl) hTH ?_
  intro p e s m below meth c A ls E hW hl
  obtain ⟨hx, hb, -, hml, hown, hts, -, -, -⟩ := id E
  have hF : FM kp L ms_X12_keepsBan f0 f0 := FM.rf
  have hl : lv_has ls 5 [(0, .ref h0), (1, .int u1), (2, .int u2)] := hl
  obtain ⟨pR, mR⟩ : ∃ x : Nat, oR (f0 h0) 2 = x := ⟨_, rfl⟩
  have rR : RK kp L pR 822 := by rw [← mR]; exact th_ref hTH rh0 (by decide) (by decide) rfl
  refine lv_aload_n hx hb dX12_keepsBan_0 rfl (lv_at hl 0 rfl) ?_
  refine fg_RX12_8 E hW rh0 dX12_keepsBan_1 (fun a1 m2 r3 => ?_)
  obtain rfl : pR = a1 := (mR).symm.trans m2
  refine lv_iload_n hx hb dX12_keepsBan_4 rfl (lv_at hl 1 rfl) ?_
  refine t_callS (As := [.int u1]) (rest := [.ref pR]) E hW (c_X12_personAt l G cI cJ cZ cD cR cT kp L f0 hW.2.2.2 _ u1 (by omega)) wk_X12_personAt tw_1572 rfl ⟨Nat.le_of_ble_eq_true rfl, Nat.le_of_ble_eq_true rfl⟩ ⟨rfl, rfl⟩ hl.1 rfl (Nat.le_of_ble_eq_true rfl) dX12_keepsBan_5 ⟨Nat.le_of_ble_eq_true rfl, Nat.le_of_ble_eq_true rfl⟩ (fun v4 f5 H locs q6 hW => ?_)
  obtain ⟨⟨x8, rfl, p9⟩, g7⟩ := q6
  have hF := FM.tr hF g7 rfl
  refine gl_822 E hW rR ⟨by omega, by omega⟩ dX12_keepsBan_8 (fun y10 m11 b12 => ?_)
  refine lv_aload_n hx hb dX12_keepsBan_9 rfl (lv_at hl 0 rfl) ?_
  refine fg_RX12_8 E hW rh0 dX12_keepsBan_10 (fun a13 m14 r15 => ?_)
  obtain rfl : pR = a13 := (((fm_R g7 rh0 rfl).trans m2)).symm.trans m14
  refine lv_iload_n hx hb dX12_keepsBan_13 rfl (lv_at hl 2 rfl) ?_
  refine t_callS (As := [.int u2]) (rest := [.ref pR, .int y10]) E hW (c_X12_personAt l G cI cJ cZ cD cR cT kp L f5 hW.2.2.2 _ u2 (by omega)) wk_X12_personAt tw_1572 rfl ⟨Nat.le_of_ble_eq_true rfl, Nat.le_of_ble_eq_true rfl⟩ ⟨rfl, rfl⟩ hl.1 rfl (Nat.le_of_ble_eq_true rfl) dX12_keepsBan_14 ⟨Nat.le_of_ble_eq_true rfl, Nat.le_of_ble_eq_true rfl⟩ (fun v16 f17 H locs q18 hW => ?_)
  obtain ⟨⟨x20, rfl, p21⟩, g19⟩ := q18
  have hF := FM.tr hF g19 rfl
  refine gl_822 E hW rR ⟨by omega, by omega⟩ dX12_keepsBan_17 (fun y22 m23 b24 => ?_)
  refine q_icmp_ne (tgt := 23) hx hb dX12_keepsBan_18 (by decide) rfl rfl (fun c25 => ?_) (fun c25 => ?_)
  · refine lv_iload_n hx hb dX12_keepsBan_23 rfl (lv_at hl 1 rfl) ?_
    refine lv_istore_n (lv' := [(3, .int u1), (0, .ref h0), (1, .int u1), (2, .int u2)]) hx hb dX12_keepsBan_24 rfl hl (by decide) rfl (fun ls hl => ?_)
    refine lv_iconst (v := 0) hx hb dX12_keepsBan_25 (by decide) ?_
    refine lv_istore (lv' := [(4, .int 0), (3, .int u1), (0, .ref h0), (1, .int u1), (2, .int u2)]) hx hb dX12_keepsBan_26 hl (by decide) rfl (fun ls hl => ?_)
    have L1038 : ∀ (n : Nat), ∀ (f1032 : Nat → va_E) (y1034 : Int32) (y1036 : Int32) (m1033 : oR (f1032 h0) 2 = pR) (b1035 : (0 : Int) ≤ y1034.toInt ∧ y1034.toInt ≤ 41) (b1037 : (-1 : Int) ≤ y1036.toInt ∧ y1036.toInt ≤ 39) (hm : (42 : Int) - y1034.toInt ≤ n) (H : Heap) (locs : List Loc) (ls : Array Slot), WS G cI cJ cZ cD cR cT A kp L f1032 s H locs → FM kp L ms_X12_keepsBan f0 f1032 → lv_has ls 5 [(4, .int y1034), (3, .int y1036), (0, .ref h0), (1, .int u1), (2, .int u2)] → W p l e ({ frames := 2, cells := 0, slots := 0, locals := 60 }) s m ([.ref h0, .int u1, .int u2] : List Value).toArray below meth c H locs 0 0 (MQ below (QT (po_X12_keepsBan kp L f0 h0 u1 u2) G cI cJ cZ cD cR cT A kp L) ([.ref h0, .int u1, .int u2] : List Value).toArray s 0 0 A) (F0 m 28 ls []) := by
      intro n
      induction n with
      | zero =>
        intro f1032 y1034 y1036 m1033 b1035 b1037 hm H locs ls hW hF hl
        have hz := i32_b y1034
        exfalso; omega
      | succ n ih =>
        intro f1032 y1034 y1036 m1033 b1035 b1037 hm H locs ls hW hF hl
        clear c25
        have ih28 := ih
        refine lv_iload hx hb dX12_keepsBan_28 (lv_at hl 0 rfl) ?_
        refine lv_bipush (v := 40) hx hb dX12_keepsBan_30 (by decide) ?_
        refine q_icmp_gt (Y := 40) (tgt := 81) hx hb dX12_keepsBan_32 (by decide) rfl rfl (fun c1039 => ?_) (fun c1039 => ?_)
        · refine lv_iconst (v := 0) hx hb dX12_keepsBan_81 (by decide) ?_
          exact e_Z E hW rfl (by decide) ⟨⟨_, rfl, (by have hk : (0 : Int32).toInt = 0 := rfl; first | decide | omega)⟩, hF⟩ dX12_keepsBan_82
        · refine lv_iload_n hx hb dX12_keepsBan_35 rfl (lv_at hl 1 rfl) ?_
          refine lv_iconst (v := (-1)) hx hb dX12_keepsBan_36 (by decide) ?_
          refine q_icmp_eq (Y := -1) (tgt := 81) hx hb dX12_keepsBan_37 (by decide) rfl rfl (fun c1040 => ?_) (fun c1040 => ?_)
          · refine lv_iconst (v := 0) hx hb dX12_keepsBan_81 (by decide) ?_
            exact e_Z E hW rfl (by decide) ⟨⟨_, rfl, (by have hk : (0 : Int32).toInt = 0 := rfl; first | decide | omega)⟩, hF⟩ dX12_keepsBan_82
          · refine lv_aload_n hx hb dX12_keepsBan_40 rfl (lv_at hl 2 rfl) ?_
            refine fg_RX12_8 E hW rh0 dX12_keepsBan_41 (fun a1041 m1042 r1043 => ?_)
            obtain rfl : pR = a1041 := (m1033).symm.trans m1042
            refine lv_iload_n hx hb dX12_keepsBan_44 rfl (lv_at hl 1 rfl) ?_
            refine t_callS (As := [.int y1036]) (rest := [.ref pR]) E hW (c_X12_personAt l G cI cJ cZ cD cR cT kp L f1032 hW.2.2.2 _ y1036 (by omega)) wk_X12_personAt tw_1572 rfl ⟨Nat.le_of_ble_eq_true rfl, Nat.le_of_ble_eq_true rfl⟩ ⟨rfl, rfl⟩ hl.1 rfl (Nat.le_of_ble_eq_true rfl) dX12_keepsBan_45 ⟨Nat.le_of_ble_eq_true rfl, Nat.le_of_ble_eq_true rfl⟩ (fun v1044 f1045 H locs q1046 hW => ?_)
            obtain ⟨⟨x1048, rfl, p1049⟩, g1047⟩ := q1046
            have hF := FM.tr hF g1047 rfl
            refine lv_iconst (v := 2) hx hb dX12_keepsBan_48 (by decide) ?_
            refine q_iadd (Y := 2) hx hb dX12_keepsBan_49 rfl rfl (by omega) (fun x1050 h1051 => ?_)
            refine gl_822 E hW rR ⟨by omega, by omega⟩ dX12_keepsBan_50 (fun y1052 m1053 b1054 => ?_)
            refine lv_aload_n hx hb dX12_keepsBan_51 rfl (lv_at hl 2 rfl) ?_
            refine fg_RX12_8 E hW rh0 dX12_keepsBan_52 (fun a1055 m1056 r1057 => ?_)
            obtain rfl : pR = a1055 := (((fm_R g1047 rh0 rfl).trans m1042)).symm.trans m1056
            refine lv_bipush (v := 10) hx hb dX12_keepsBan_55 (by decide) ?_
            refine gl_822 E hW rR (by decide) dX12_keepsBan_57 (fun y1058 m1059 b1060 => ?_)
            refine q_icmp_lt (tgt := 63) hx hb dX12_keepsBan_58 (by decide) rfl rfl (fun c1061 => ?_) (fun c1061 => ?_)
            · have hb1062 : y1052.toInt ≤ 2147483646 := by have := i32_b y1058; omega
              have hb1063 : -2147483647 ≤ y1058.toInt := by have := i32_b y1052; omega
              refine lv_aload_n hx hb dX12_keepsBan_63 rfl (lv_at hl 2 rfl) ?_
              refine fg_RX12_8 E hW rh0 dX12_keepsBan_64 (fun a1064 m1065 r1066 => ?_)
              obtain rfl : pR = a1064 := (m1056).symm.trans m1065
              refine lv_iload_n hx hb dX12_keepsBan_67 rfl (lv_at hl 1 rfl) ?_
              refine t_callS (As := [.int y1036]) (rest := [.ref pR]) E hW (c_X12_personAt l G cI cJ cZ cD cR cT kp L f1045 hW.2.2.2 _ y1036 (by omega)) wk_X12_personAt tw_1572 rfl ⟨Nat.le_of_ble_eq_true rfl, Nat.le_of_ble_eq_true rfl⟩ ⟨rfl, rfl⟩ hl.1 rfl (Nat.le_of_ble_eq_true rfl) dX12_keepsBan_68 ⟨Nat.le_of_ble_eq_true rfl, Nat.le_of_ble_eq_true rfl⟩ (fun v1067 f1068 H locs q1069 hW => ?_)
              obtain ⟨⟨x1071, rfl, p1072⟩, g1070⟩ := q1069
              have hF := FM.tr hF g1070 rfl
              refine lv_iconst (v := 3) hx hb dX12_keepsBan_71 (by decide) ?_
              refine q_iadd (Y := 3) hx hb dX12_keepsBan_72 rfl rfl (by omega) (fun x1073 h1074 => ?_)
              refine gl_822 E hW rR ⟨by omega, by omega⟩ dX12_keepsBan_73 (fun y1075 m1076 b1077 => ?_)
              have b1078 := rr_heed (show RowInv _ from b1077) m1076 (by omega)
              refine lv_istore_n (lv' := [(3, .int y1075), (4, .int y1034), (0, .ref h0), (1, .int u1), (2, .int u2)]) hx hb dX12_keepsBan_74 rfl hl (by decide) rfl (fun ls hl => ?_)
              refine q_iinc hx hb dX12_keepsBan_75 hl (k := 1) rfl rfl rfl (by omega) (by decide) (fun i1079 ls h1080 hl => ?_)
              have hl : lv_has ls 5 [(4, .int i1079), (3, .int y1075), (0, .ref h0), (1, .int u1), (2, .int u2)] := hl
              refine lv_goto (tgt := 28) hx hb dX12_keepsBan_78 (by decide) ?_
              exact ih28 f1068 i1079 y1075 ((fm_R g1070 rh0 rfl).trans m1065) (by omega) (by omega) (by omega) _ _ _ hW hF (lv_sub hl [0, 1, 2, 3, 4] rfl)
            · refine lv_iconst (v := 1) hx hb dX12_keepsBan_61 (by decide) ?_
              exact e_Z E hW rfl (by decide) ⟨⟨_, rfl, (by have hk : (1 : Int32).toInt = 1 := rfl; first | decide | omega)⟩, hF⟩ dX12_keepsBan_62
    have hk1081 : (0 : Int32).toInt = 0 := rfl
    exact L1038 42 f17 0 u1 ((fm_R g19 rh0 rfl).trans m14) (by decide) (by omega) (by omega) _ _ _ hW hF (lv_sub hl [0, 1, 2, 3, 4] rfl)
  · refine lv_iconst (v := 0) hx hb dX12_keepsBan_21 (by decide) ?_
    exact e_Z E hW rfl (by decide) ⟨⟨_, rfl, (by have hk : (0 : Int32).toInt = 0 := rfl; first | decide | omega)⟩, hF⟩ dX12_keepsBan_22
def ms_X12_isAbout : List (Nat × Nat) := []
def po_X12_isAbout (kp : Nat → Nat) (L : List Nat) (f0 : Nat → va_E) (h0 : Nat) (u1 : Int32) : Option Value → (Nat → va_E) → Prop := fun v f => (∃ r : Int32, v = some (.int r) ∧ ((0 : Int) ≤ r.toInt ∧ r.toInt ≤ 1)) ∧ FM kp L ms_X12_isAbout f0 f
set_option maxHeartbeats 4000000 in
set_option maxRecDepth 100000 in
theorem c_X12_isAbout (l : Launch) (G : va_G) (cI cJ cZ cD cR cT : ClassId) (kp : Nat → Nat) (L : List Nat) (f0 : Nat → va_E) (hTH : TH cI cJ cZ cD cR cT kp L f0) (sz : Nat) (h0 : Nat) (u1 : Int32) (rh0 : RK kp L h0 12) (pu1 : (0 : Int) ≤ u1.toInt ∧ u1.toInt ≤ 39) : Met l yX12_isAbout (Cond.code yX12_isAbout cX12_isAbout 2 (some .boolean) :: wTab) ({ frames := 2, cells := 0, slots := 0, locals := 60 }) (va_Pc [.ref h0, .int u1] (PreW G (tys6 cI cJ cZ cD cR cT) (va_pl L f0) sz)) (QT (po_X12_isAbout kp L f0 h0 u1) G cI cJ cZ cD cR cT (va_A (va_pl L f0) sz) kp L) 0 0 (va_A (va_pl L f0) sz) := by
  refine metT (by decide) (Nat.le_of_ble_eq_true rfl) hTH ?_
  intro p e s m below meth c A ls E hW hl
  obtain ⟨hx, hb, -, hml, hown, hts, -, -, -⟩ := id E
  have hF : FM kp L ms_X12_isAbout f0 f0 := FM.rf
  have hl : lv_has ls 2 [(0, .ref h0), (1, .int u1)] := hl
  obtain ⟨pR, mR⟩ : ∃ x : Nat, oR (f0 h0) 2 = x := ⟨_, rfl⟩
  have rR : RK kp L pR 822 := by rw [← mR]; exact th_ref hTH rh0 (by decide) (by decide) rfl
  refine lv_aload_n hx hb dX12_isAbout_0 rfl (lv_at hl 0 rfl) ?_
  refine fg_RX12_8 E hW rh0 dX12_isAbout_1 (fun a1 m2 r3 => ?_)
  obtain rfl : pR = a1 := (mR).symm.trans m2
  refine lv_iload_n hx hb dX12_isAbout_4 rfl (lv_at hl 1 rfl) ?_
  refine t_callS (As := [.int u1]) (rest := [.ref pR]) E hW (c_X12_personAt l G cI cJ cZ cD cR cT kp L f0 hW.2.2.2 _ u1 (by omega)) wk_X12_personAt tw_1572 rfl ⟨Nat.le_of_ble_eq_true rfl, Nat.le_of_ble_eq_true rfl⟩ ⟨rfl, rfl⟩ hl.1 rfl (Nat.le_of_ble_eq_true rfl) dX12_isAbout_5 ⟨Nat.le_of_ble_eq_true rfl, Nat.le_of_ble_eq_true rfl⟩ (fun v4 f5 H locs q6 hW => ?_)
  obtain ⟨⟨x8, rfl, p9⟩, g7⟩ := q6
  have hF := FM.tr hF g7 rfl
  refine lv_iconst (v := 5) hx hb dX12_isAbout_8 (by decide) ?_
  refine q_iadd (Y := 5) hx hb dX12_isAbout_9 rfl rfl (by omega) (fun x10 h11 => ?_)
  refine gl_822 E hW rR ⟨by omega, by omega⟩ dX12_isAbout_10 (fun y12 m13 b14 => ?_)
  refine lv_iconst (v := 2) hx hb dX12_isAbout_11 (by decide) ?_
  have J17 : ∀ (y15 : Int32) (b16 : (0 : Int) ≤ y15.toInt ∧ y15.toInt ≤ 1) (H : Heap) (locs : List Loc) (ls : Array Slot), WS G cI cJ cZ cD cR cT A kp L f5 s H locs → FM kp L ms_X12_isAbout f0 f5 → lv_has ls 2 [(0, .ref h0), (1, .int u1)] → W p l e ({ frames := 2, cells := 0, slots := 0, locals := 60 }) s m ([.ref h0, .int u1] : List Value).toArray below meth c H locs 0 0 (MQ below (QT (po_X12_isAbout kp L f0 h0 u1) G cI cJ cZ cD cR cT A kp L) ([.ref h0, .int u1] : List Value).toArray s 0 0 A) (F0 m 20 ls [.int y15]) := by
    intro y15 b16 H locs ls hW hF hl
    exact e_Z E hW rfl (by omega) ⟨⟨_, rfl, (by first | omega | trivial)⟩, hF⟩ dX12_isAbout_20
  refine q_icmp_ge (Y := 2) (tgt := 19) hx hb dX12_isAbout_12 (by decide) rfl rfl (fun c18 => ?_) (fun c18 => ?_)
  · refine lv_iconst (v := 0) hx hb dX12_isAbout_19 (by decide) ?_
    exact J17 0 (by decide) _ _ _ hW hF (lv_sub hl [0, 1] rfl)
  · refine lv_iconst (v := 1) hx hb dX12_isAbout_15 (by decide) ?_
    refine lv_goto (tgt := 20) hx hb dX12_isAbout_16 (by decide) ?_
    exact J17 1 (by decide) _ _ _ hW hF (lv_sub hl [0, 1] rfl)
def rw_X12_deal : List (Nat × Nat) := [(5, 5), (21, 333)]
def ms_X12_deal : List (Nat × Nat) := [(12, 0), (12, 1), (822, 0)]
def po_X12_deal (kp : Nat → Nat) (L : List Nat) (f0 : Nat → va_E) (h0 : Nat) (u1 : Int32) (u2 : Int32) (u3 : Int32) : Option Value → (Nat → va_E) → Prop := fun v f => (∃ r : Int32, v = some (.int r) ∧ (True)) ∧ FM kp L ms_X12_deal f0 f ∧ (RF rw_X12_deal f0 f h0)
set_option maxHeartbeats 4000000 in
set_option maxRecDepth 100000 in
theorem c_X12_deal (l : Launch) (G : va_G) (cI cJ cZ cD cR cT : ClassId) (kp : Nat → Nat) (L : List Nat) (f0 : Nat → va_E) (hTH : TH cI cJ cZ cD cR cT kp L f0) (sz : Nat) (h0 : Nat) (u1 : Int32) (u2 : Int32) (u3 : Int32) (rh0 : RK kp L h0 12) : Met l yX12_deal (Cond.code yX12_deal cX12_deal 6 (some .int) :: wTab) ({ frames := 3, cells := 0, slots := 0, locals := 86 }) (va_Pc [.ref h0, .int u1, .int u2, .int u3] (PreW G (tys6 cI cJ cZ cD cR cT) (va_pl L f0) sz)) (QT (po_X12_deal kp L f0 h0 u1 u2 u3) G cI cJ cZ cD cR cT (va_A (va_pl L f0) sz) kp L) 0 0 (va_A (va_pl L f0) sz) := by
  refine metT (by decide) (Nat.le_of_ble_eq_true rfl) hTH ?_
  intro p e s m below meth c A ls E hW hl
  obtain ⟨hx, hb, -, hml, hown, hts, -, -, -⟩ := id E
  have hF : FM kp L ms_X12_deal f0 f0 := FM.rf
  have hl : lv_has ls 6 [(0, .ref h0), (1, .int u1), (2, .int u2), (3, .int u3)] := hl
  obtain ⟨pR, mR⟩ : ∃ x : Nat, oR (f0 h0) 2 = x := ⟨_, rfl⟩
  have rR : RK kp L pR 822 := by rw [← mR]; exact th_ref hTH rh0 (by decide) (by decide) rfl
  refine lv_aload_n hx hb dX12_deal_0 rfl (lv_at hl 0 rfl) ?_
  refine lv_iconst (v := 0) hx hb dX12_deal_1 (by decide) ?_
  refine fp_RX12_82 E hW rh0 dX12_deal_2 (fun f1 H locs e2 n3 g4 hW => ?_)
  have z5 : RF rw_X12_deal f0 f1 h0 := rf_fm hTH rf_rf g4 rh0 rfl
  have hF := FM.tr hF g4 rfl
  refine lv_iload_n hx hb dX12_deal_5 rfl (lv_at hl 3 rfl) ?_
  refine q_i2l hx hb dX12_deal_6 rfl (fun x6 h7 => ?_)
  have hb8 : -2147483648 ≤ x6.toInt ∧ x6.toInt ≤ 2147483647 := by have := i32_b u3; omega
  refine lv_lconst (v := 1) hx hb dX12_deal_7 (by decide) ?_
  refine lv_ldc2 (v := 10000) hx hb hown (hts _ tw_1723) dX12_deal_8 ?_
  refine t_callS (As := [.long x6, .long 1, .long 10000]) (rest := []) E hW (c_X12_in l G cI cJ cZ cD cR cT kp L f1 hW.2.2.2 _ x6 1 10000) wk_X12_in tw_1554 rfl ⟨Nat.le_of_ble_eq_true rfl, Nat.le_of_ble_eq_true rfl⟩ ⟨rfl, rfl⟩ hl.1 rfl (Nat.le_of_ble_eq_true rfl) dX12_deal_11 ⟨Nat.le_of_ble_eq_true rfl, Nat.le_of_ble_eq_true rfl⟩ (fun v9 f10 H locs q11 hW => ?_)
  obtain ⟨⟨x13, rfl, p14⟩, g12⟩ := q11
  have p14 : (x13.toInt = 1 ∧ 1 ≤ x6.toInt ∧ x6.toInt ≤ 10000) ∨ (x13.toInt = 0 ∧ (x6.toInt < 1 ∨ 10000 < x6.toInt)) := p14
  have z15 : RF rw_X12_deal f0 f10 h0 := rf_fm hTH z5 g12 rh0 rfl
  have hF := FM.tr hF g12 rfl
  refine q_if_ne (tgt := 23) hx hb dX12_deal_14 (by decide) rfl (fun c16 => ?_) (fun c16 => ?_)
  · have q17 : 1 ≤ x6.toInt ∧ x6.toInt ≤ 10000 := by omega
    clear p14
    refine lv_aload_n hx hb dX12_deal_23 rfl (lv_at hl 0 rfl) ?_
    refine lv_iload_n hx hb dX12_deal_24 rfl (lv_at hl 1 rfl) ?_
    refine t_callV (As := [.int u1]) (rest := []) E hW (c_X12_isPerson l G cI cJ cZ cD cR cT kp L f10 hW.2.2.2 _ h0 u1 rh0) rh0 (by decide) rfl wk_X12_isPerson tw_1583 rfl ⟨Nat.le_of_ble_eq_true rfl, Nat.le_of_ble_eq_true rfl⟩ ⟨rfl, rfl⟩ hl.1 rfl (Nat.le_of_ble_eq_true rfl) dX12_deal_25 ⟨Nat.le_of_ble_eq_true rfl, Nat.le_of_ble_eq_true rfl⟩ (fun v18 f19 H locs q20 hW => ?_)
    obtain ⟨⟨x22, rfl, p23⟩, g21⟩ := q20
    have z24 : RF rw_X12_deal f0 f19 h0 := rf_fm hTH z15 g21 rh0 rfl
    have hF := FM.tr hF g21 rfl
    refine q_if_eq (tgt := 39) hx hb dX12_deal_28 (by decide) rfl (fun c25 => ?_) (fun c25 => ?_)
    · clear p23
      refine lv_aload_n hx hb dX12_deal_39 rfl (lv_at hl 0 rfl) ?_
      refine lv_bipush (v := (-2)) hx hb dX12_deal_40 (by decide) ?_
      refine t_callV (As := [.int (-2)]) (rest := []) E hW (c_X12_told l G cI cJ cZ cD cR cT kp L f19 hW.2.2.2 _ h0 (-2) rh0) rh0 (by decide) rfl wk_X12_told tw_1557 rfl ⟨Nat.le_of_ble_eq_true rfl, Nat.le_of_ble_eq_true rfl⟩ ⟨rfl, rfl⟩ hl.1 rfl (Nat.le_of_ble_eq_true rfl) dX12_deal_42 ⟨Nat.le_of_ble_eq_true rfl, Nat.le_of_ble_eq_true rfl⟩ (fun v26 f27 H locs q28 hW => ?_)
      obtain ⟨⟨x30, rfl, p31⟩, g29⟩ := q28
      clear p31
      have z32 : RF rw_X12_deal f0 f27 h0 := rf_fm hTH z24 g29 rh0 rfl
      have hF := FM.tr hF g29 rfl
      exact e_I E hW rfl ⟨⟨_, rfl, trivial⟩, hF, z32⟩ dX12_deal_45
    · have q33 : 0 ≤ u1.toInt ∧ u1.toInt ≤ 39 := by omega
      clear p23
      refine lv_aload_n hx hb dX12_deal_31 rfl (lv_at hl 0 rfl) ?_
      refine lv_iload_n hx hb dX12_deal_32 rfl (lv_at hl 2 rfl) ?_
      refine t_callV (As := [.int u2]) (rest := []) E hW (c_X12_isPerson l G cI cJ cZ cD cR cT kp L f19 hW.2.2.2 _ h0 u2 rh0) rh0 (by decide) rfl wk_X12_isPerson tw_1583 rfl ⟨Nat.le_of_ble_eq_true rfl, Nat.le_of_ble_eq_true rfl⟩ ⟨rfl, rfl⟩ hl.1 rfl (Nat.le_of_ble_eq_true rfl) dX12_deal_33 ⟨Nat.le_of_ble_eq_true rfl, Nat.le_of_ble_eq_true rfl⟩ (fun v34 f35 H locs q36 hW => ?_)
      obtain ⟨⟨x38, rfl, p39⟩, g37⟩ := q36
      have z40 : RF rw_X12_deal f0 f35 h0 := rf_fm hTH z24 g37 rh0 rfl
      have hF := FM.tr hF g37 rfl
      refine q_if_ne (tgt := 46) hx hb dX12_deal_36 (by decide) rfl (fun c41 => ?_) (fun c41 => ?_)
      · have q42 : 0 ≤ u2.toInt ∧ u2.toInt ≤ 39 := by omega
        clear p39
        refine lv_iload_n hx hb dX12_deal_46 rfl (lv_at hl 2 rfl) ?_
        refine t_callS (As := [.int u2]) (rest := []) E hW (c_X12_personAt l G cI cJ cZ cD cR cT kp L f35 hW.2.2.2 _ u2 (by omega)) wk_X12_personAt tw_1572 rfl ⟨Nat.le_of_ble_eq_true rfl, Nat.le_of_ble_eq_true rfl⟩ ⟨rfl, rfl⟩ hl.1 rfl (Nat.le_of_ble_eq_true rfl) dX12_deal_47 ⟨Nat.le_of_ble_eq_true rfl, Nat.le_of_ble_eq_true rfl⟩ (fun v43 f44 H locs q45 hW => ?_)
        obtain ⟨⟨x47, rfl, p48⟩, g46⟩ := q45
        have z49 : RF rw_X12_deal f0 f44 h0 := rf_fm hTH z40 g46 rh0 rfl
        have hF := FM.tr hF g46 rfl
        refine lv_istore (lv' := [(4, .int x47), (0, .ref h0), (1, .int u1), (2, .int u2), (3, .int u3)]) hx hb dX12_deal_50 hl (by decide) rfl (fun ls hl => ?_)
        refine lv_iload_n hx hb dX12_deal_52 rfl (lv_at hl 2 rfl) ?_
        refine lv_iload_n hx hb dX12_deal_53 rfl (lv_at hl 3 rfl) ?_
        have J81 : ∀ (f75 : Nat → va_E) (y78 : Int32) (m76 : oI (f75 h0) 0 = 0) (m77 : oR (f75 h0) 2 = pR) (b79 : (0 : Int) ≤ y78.toInt ∧ y78.toInt ≤ 1) (z80 : RF rw_X12_deal f0 f75 h0) (H : Heap) (locs : List Loc) (ls : Array Slot), WS G cI cJ cZ cD cR cT A kp L f75 s H locs → FM kp L ms_X12_deal f0 f75 → lv_has ls 6 [(4, .int x47), (0, .ref h0), (1, .int u1), (2, .int u2), (3, .int u3)] → W p l e ({ frames := 3, cells := 0, slots := 0, locals := 86 }) s m ([.ref h0, .int u1, .int u2, .int u3] : List Value).toArray below meth c H locs 0 0 (MQ below (QT (po_X12_deal kp L f0 h0 u1 u2 u3) G cI cJ cZ cD cR cT A kp L) ([.ref h0, .int u1, .int u2, .int u3] : List Value).toArray s 0 0 A) (F0 m 91 ls [.int y78]) := by
          intro f75 y78 m76 m77 b79 z80 H locs ls hW hF hl
          clear c16 c25 c41
          refine lv_istore (lv' := [(5, .int y78), (4, .int x47), (0, .ref h0), (1, .int u1), (2, .int u2), (3, .int u3)]) hx hb dX12_deal_91 hl (by decide) rfl (fun ls hl => ?_)
          refine lv_iload hx hb dX12_deal_93 (lv_at hl 0 rfl) ?_
          refine q_if_eq (tgt := 121) hx hb dX12_deal_95 (by decide) rfl (fun c82 => ?_) (fun c82 => ?_)
          · refine lv_aload_n hx hb dX12_deal_121 rfl (lv_at hl 2 rfl) ?_
            refine lv_bipush (v := (-3)) hx hb dX12_deal_122 (by decide) ?_
            refine t_callV (As := [.int (-3)]) (rest := []) E hW (c_X12_told l G cI cJ cZ cD cR cT kp L f75 hW.2.2.2 _ h0 (-3) rh0) rh0 (by decide) rfl wk_X12_told tw_1557 rfl ⟨Nat.le_of_ble_eq_true rfl, Nat.le_of_ble_eq_true rfl⟩ ⟨rfl, rfl⟩ hl.1 rfl (Nat.le_of_ble_eq_true rfl) dX12_deal_124 ⟨Nat.le_of_ble_eq_true rfl, Nat.le_of_ble_eq_true rfl⟩ (fun v83 f84 H locs q85 hW => ?_)
            obtain ⟨⟨x87, rfl, p88⟩, g86⟩ := q85
            clear p88
            have z89 : RF rw_X12_deal f0 f84 h0 := rf_fm hTH z80 g86 rh0 rfl
            have hF := FM.tr hF g86 rfl
            exact e_I E hW rfl ⟨⟨_, rfl, trivial⟩, hF, z89⟩ dX12_deal_127
          · refine lv_aload_n hx hb dX12_deal_98 rfl (lv_at hl 2 rfl) ?_
            refine fg_RX12_8 E hW rh0 dX12_deal_99 (fun a90 m91 r92 => ?_)
            obtain rfl : pR = a90 := (m77).symm.trans m91
            refine lv_iload hx hb dX12_deal_102 (lv_at hl 1 rfl) ?_
            refine lv_bipush (v := 6) hx hb dX12_deal_104 (by decide) ?_
            refine q_iadd (Y := 6) hx hb dX12_deal_106 rfl rfl (by omega) (fun x93 h94 => ?_)
            refine gl_822 E hW rR ⟨by omega, by omega⟩ dX12_deal_107 (fun y95 m96 b97 => ?_)
            refine lv_iconst (v := 1) hx hb dX12_deal_108 (by decide) ?_
            refine q_icmp_ne (Y := 1) (tgt := 128) hx hb dX12_deal_109 (by decide) rfl rfl (fun c98 => ?_) (fun c98 => ?_)
            · refine lv_aload_n hx hb dX12_deal_128 rfl (lv_at hl 2 rfl) ?_
              refine fg_RX12_8 E hW rh0 dX12_deal_129 (fun a99 m100 r101 => ?_)
              obtain rfl : pR = a99 := (m91).symm.trans m100
              refine lv_iconst (v := 5) hx hb dX12_deal_132 (by decide) ?_
              refine gl_822 E hW rR (by decide) dX12_deal_133 (fun y102 m103 b104 => ?_)
              refine lv_sipush (v := 200) hx hb dX12_deal_134 (by decide) ?_
              refine q_icmp_ne (Y := 200) (tgt := 147) hx hb dX12_deal_137 (by decide) rfl rfl (fun c105 => ?_) (fun c105 => ?_)
              · refine lv_aload_n hx hb dX12_deal_147 rfl (lv_at hl 2 rfl) ?_
                refine fg_RX12_8 E hW rh0 dX12_deal_148 (fun a106 m107 r108 => ?_)
                obtain rfl : pR = a106 := (m100).symm.trans m107
                refine lv_iload hx hb dX12_deal_151 (lv_at hl 1 rfl) ?_
                refine lv_iconst (v := 1) hx hb dX12_deal_153 (by decide) ?_
                refine q_iadd (Y := 1) hx hb dX12_deal_154 rfl rfl (by omega) (fun x109 h110 => ?_)
                refine lv_dup2_11 hx hb dX12_deal_155 rfl rfl ?_
                refine gl_822 E hW rR ⟨by omega, by omega⟩ dX12_deal_156 (fun y111 m112 b113 => ?_)
                refine lv_iload_n hx hb dX12_deal_157 rfl (lv_at hl 5 rfl) ?_
                refine u_isub hx hb dX12_deal_158 (fun x114 => ?_)
                refine gs_822 E hW rR ⟨by omega, by omega⟩ (fun hc => rr_up hc (by omega) (by omega) (by unfold rbI; omega)) dX12_deal_159 (fun f115 H locs e116 n117 g118 hW => ?_)
                have z119 : RF rw_X12_deal f0 f115 h0 := rf_st (lo := 21) (hi := 333) z80 mR e116 (by omega) rfl
                have hF := FM.tr hF g118 rfl
                refine lv_aload_n hx hb dX12_deal_160 rfl (lv_at hl 2 rfl) ?_
                refine lv_iload_n hx hb dX12_deal_161 rfl (lv_at hl 3 rfl) ?_
                refine lv_iload_n hx hb dX12_deal_162 rfl (lv_at hl 5 rfl) ?_
                refine q_i2l hx hb dX12_deal_163 rfl (fun x120 h121 => ?_)
                refine t_callV (As := [.int u1, .long x120]) (rest := []) E hW (c_X12_gets l G cI cJ cZ cD cR cT kp L f115 hW.2.2.2 _ h0 u1 x120 rh0 (by omega)) rh0 (by decide) rfl wk_X12_gets tw_1596 rfl ⟨Nat.le_of_ble_eq_true rfl, Nat.le_of_ble_eq_true rfl⟩ ⟨rfl, rfl⟩ hl.1 rfl (Nat.le_of_ble_eq_true rfl) dX12_deal_164 ⟨Nat.le_of_ble_eq_true rfl, Nat.le_of_ble_eq_true rfl⟩ (fun v122 f123 H locs q124 hW => ?_)
                obtain ⟨rfl, g125, h126⟩ := q124
                have z127 : RF rw_X12_deal f0 f123 h0 := rf_call z119 h126 mR ((fm_R g118 rh0 rfl).trans m107) rfl
                have hF := FM.tr hF g125 rfl
                refine lv_aload_n hx hb dX12_deal_167 rfl (lv_at hl 2 rfl) ?_
                refine fg_RX12_8 E hW rh0 dX12_deal_168 (fun a128 m129 r130 => ?_)
                obtain rfl : pR = a128 := (((fm_R g125 rh0 rfl).trans ((fm_R g118 rh0 rfl).trans m107))).symm.trans m129
                refine lv_iconst (v := 5) hx hb dX12_deal_171 (by decide) ?_
                refine lv_dup2_11 hx hb dX12_deal_172 rfl rfl ?_
                refine gl_822 E hW rR (by decide) dX12_deal_173 (fun y131 m132 b133 => ?_)
                obtain rfl : y102 = y131 := (((show aI (f123 pR) (5 : Int32).toNatClampNeg = aI (f115 pR) (5 : Int32).toNatClampNeg from rf_get h126 ((fm_R g118 rh0 rfl).trans m107) 5 rfl).trans (show aI (f115 pR) (5 : Int32).toNatClampNeg = y102 from by rw [e116, up_n (tn_ne (by omega) (by decide) (by have hk0 : (5 : Int32).toInt = 5 := rfl; omega))]; exact m103))).symm.trans m132
                refine lv_iconst (v := 1) hx hb dX12_deal_174 (by decide) ?_
                refine u_iadd hx hb dX12_deal_175 (fun x134 => ?_)
                have hk135 : (5 : Int32).toInt = 5 := rfl
                refine gs_822 E hW rR (by decide) (fun hc => rr_up hc (by omega) (by omega) (by unfold rbI; omega)) dX12_deal_176 (fun f136 H locs e137 n138 g139 hW => ?_)
                have z140 : RF rw_X12_deal f0 f136 h0 := rf_st (lo := 5) (hi := 5) z127 mR e137 (by decide) rfl
                have hF := FM.tr hF g139 rfl
                refine lv_aload_n hx hb dX12_deal_177 rfl (lv_at hl 2 rfl) ?_
                refine lv_aload_n hx hb dX12_deal_178 rfl (lv_at hl 2 rfl) ?_
                refine fg_RX12_8 E hW rh0 dX12_deal_179 (fun a141 m142 r143 => ?_)
                obtain rfl : pR = a141 := (((fm_R g139 rh0 rfl).trans m129)).symm.trans m142
                refine lv_iconst (v := 5) hx hb dX12_deal_182 (by decide) ?_
                refine gl_822 E hW rR (by decide) dX12_deal_183 (fun y144 m145 b146 => ?_)
                obtain rfl : x134 = y144 := ((show aI (f136 pR) (5 : Int32).toNatClampNeg = x134 from by rw [e137]; exact up_s)).symm.trans m145
                refine t_callV (As := [.int x134]) (rest := []) E hW (c_X12_told l G cI cJ cZ cD cR cT kp L f136 hW.2.2.2 _ h0 x134 rh0) rh0 (by decide) rfl wk_X12_told tw_1557 rfl ⟨Nat.le_of_ble_eq_true rfl, Nat.le_of_ble_eq_true rfl⟩ ⟨rfl, rfl⟩ hl.1 rfl (Nat.le_of_ble_eq_true rfl) dX12_deal_184 ⟨Nat.le_of_ble_eq_true rfl, Nat.le_of_ble_eq_true rfl⟩ (fun v147 f148 H locs q149 hW => ?_)
                obtain ⟨⟨x151, rfl, p152⟩, g150⟩ := q149
                clear p152
                have z153 : RF rw_X12_deal f0 f148 h0 := rf_fm hTH z140 g150 rh0 rfl
                have hF := FM.tr hF g150 rfl
                exact e_I E hW rfl ⟨⟨_, rfl, trivial⟩, hF, z153⟩ dX12_deal_187
              · refine lv_aload_n hx hb dX12_deal_140 rfl (lv_at hl 2 rfl) ?_
                refine lv_bipush (v := (-5)) hx hb dX12_deal_141 (by decide) ?_
                refine t_callV (As := [.int (-5)]) (rest := []) E hW (c_X12_told l G cI cJ cZ cD cR cT kp L f75 hW.2.2.2 _ h0 (-5) rh0) rh0 (by decide) rfl wk_X12_told tw_1557 rfl ⟨Nat.le_of_ble_eq_true rfl, Nat.le_of_ble_eq_true rfl⟩ ⟨rfl, rfl⟩ hl.1 rfl (Nat.le_of_ble_eq_true rfl) dX12_deal_143 ⟨Nat.le_of_ble_eq_true rfl, Nat.le_of_ble_eq_true rfl⟩ (fun v154 f155 H locs q156 hW => ?_)
                obtain ⟨⟨x158, rfl, p159⟩, g157⟩ := q156
                clear p159
                have z160 : RF rw_X12_deal f0 f155 h0 := rf_fm hTH z80 g157 rh0 rfl
                have hF := FM.tr hF g157 rfl
                exact e_I E hW rfl ⟨⟨_, rfl, trivial⟩, hF, z160⟩ dX12_deal_146
            · refine lv_aload_n hx hb dX12_deal_112 rfl (lv_at hl 2 rfl) ?_
              refine lv_iload_n hx hb dX12_deal_113 rfl (lv_at hl 3 rfl) ?_
              refine lv_iload_n hx hb dX12_deal_114 rfl (lv_at hl 4 rfl) ?_
              refine t_callV (As := [.int u1, .int u2]) (rest := []) E hW (c_X12_keepsBan l G cI cJ cZ cD cR cT kp L f75 hW.2.2.2 _ h0 u1 u2 rh0 (by omega) (by omega)) rh0 (by decide) rfl wk_X12_keepsBan tw_1974 rfl ⟨Nat.le_of_ble_eq_true rfl, Nat.le_of_ble_eq_true rfl⟩ ⟨rfl, rfl⟩ hl.1 rfl (Nat.le_of_ble_eq_true rfl) dX12_deal_115 ⟨Nat.le_of_ble_eq_true rfl, Nat.le_of_ble_eq_true rfl⟩ (fun v161 f162 H locs q163 hW => ?_)
              obtain ⟨⟨x165, rfl, p166⟩, g164⟩ := q163
              have z167 : RF rw_X12_deal f0 f162 h0 := rf_fm hTH z80 g164 rh0 rfl
              have hF := FM.tr hF g164 rfl
              refine q_if_eq (tgt := 128) hx hb dX12_deal_118 (by decide) rfl (fun c168 => ?_) (fun c168 => ?_)
              · refine lv_aload_n hx hb dX12_deal_128 rfl (lv_at hl 2 rfl) ?_
                refine fg_RX12_8 E hW rh0 dX12_deal_129 (fun a169 m170 r171 => ?_)
                obtain rfl : pR = a169 := (((fm_R g164 rh0 rfl).trans m91)).symm.trans m170
                refine lv_iconst (v := 5) hx hb dX12_deal_132 (by decide) ?_
                refine gl_822 E hW rR (by decide) dX12_deal_133 (fun y172 m173 b174 => ?_)
                refine lv_sipush (v := 200) hx hb dX12_deal_134 (by decide) ?_
                refine q_icmp_ne (Y := 200) (tgt := 147) hx hb dX12_deal_137 (by decide) rfl rfl (fun c175 => ?_) (fun c175 => ?_)
                · refine lv_aload_n hx hb dX12_deal_147 rfl (lv_at hl 2 rfl) ?_
                  refine fg_RX12_8 E hW rh0 dX12_deal_148 (fun a176 m177 r178 => ?_)
                  obtain rfl : pR = a176 := (m170).symm.trans m177
                  refine lv_iload hx hb dX12_deal_151 (lv_at hl 1 rfl) ?_
                  refine lv_iconst (v := 1) hx hb dX12_deal_153 (by decide) ?_
                  refine q_iadd (Y := 1) hx hb dX12_deal_154 rfl rfl (by omega) (fun x179 h180 => ?_)
                  refine lv_dup2_11 hx hb dX12_deal_155 rfl rfl ?_
                  refine gl_822 E hW rR ⟨by omega, by omega⟩ dX12_deal_156 (fun y181 m182 b183 => ?_)
                  refine lv_iload_n hx hb dX12_deal_157 rfl (lv_at hl 5 rfl) ?_
                  refine u_isub hx hb dX12_deal_158 (fun x184 => ?_)
                  refine gs_822 E hW rR ⟨by omega, by omega⟩ (fun hc => rr_up hc (by omega) (by omega) (by unfold rbI; omega)) dX12_deal_159 (fun f185 H locs e186 n187 g188 hW => ?_)
                  have z189 : RF rw_X12_deal f0 f185 h0 := rf_st (lo := 21) (hi := 333) z167 mR e186 (by omega) rfl
                  have hF := FM.tr hF g188 rfl
                  refine lv_aload_n hx hb dX12_deal_160 rfl (lv_at hl 2 rfl) ?_
                  refine lv_iload_n hx hb dX12_deal_161 rfl (lv_at hl 3 rfl) ?_
                  refine lv_iload_n hx hb dX12_deal_162 rfl (lv_at hl 5 rfl) ?_
                  refine q_i2l hx hb dX12_deal_163 rfl (fun x190 h191 => ?_)
                  refine t_callV (As := [.int u1, .long x190]) (rest := []) E hW (c_X12_gets l G cI cJ cZ cD cR cT kp L f185 hW.2.2.2 _ h0 u1 x190 rh0 (by omega)) rh0 (by decide) rfl wk_X12_gets tw_1596 rfl ⟨Nat.le_of_ble_eq_true rfl, Nat.le_of_ble_eq_true rfl⟩ ⟨rfl, rfl⟩ hl.1 rfl (Nat.le_of_ble_eq_true rfl) dX12_deal_164 ⟨Nat.le_of_ble_eq_true rfl, Nat.le_of_ble_eq_true rfl⟩ (fun v192 f193 H locs q194 hW => ?_)
                  obtain ⟨rfl, g195, h196⟩ := q194
                  have z197 : RF rw_X12_deal f0 f193 h0 := rf_call z189 h196 mR ((fm_R g188 rh0 rfl).trans m177) rfl
                  have hF := FM.tr hF g195 rfl
                  refine lv_aload_n hx hb dX12_deal_167 rfl (lv_at hl 2 rfl) ?_
                  refine fg_RX12_8 E hW rh0 dX12_deal_168 (fun a198 m199 r200 => ?_)
                  obtain rfl : pR = a198 := (((fm_R g195 rh0 rfl).trans ((fm_R g188 rh0 rfl).trans m177))).symm.trans m199
                  refine lv_iconst (v := 5) hx hb dX12_deal_171 (by decide) ?_
                  refine lv_dup2_11 hx hb dX12_deal_172 rfl rfl ?_
                  refine gl_822 E hW rR (by decide) dX12_deal_173 (fun y201 m202 b203 => ?_)
                  obtain rfl : y172 = y201 := (((show aI (f193 pR) (5 : Int32).toNatClampNeg = aI (f185 pR) (5 : Int32).toNatClampNeg from rf_get h196 ((fm_R g188 rh0 rfl).trans m177) 5 rfl).trans (show aI (f185 pR) (5 : Int32).toNatClampNeg = y172 from by rw [e186, up_n (tn_ne (by omega) (by decide) (by have hk0 : (5 : Int32).toInt = 5 := rfl; omega))]; exact m173))).symm.trans m202
                  refine lv_iconst (v := 1) hx hb dX12_deal_174 (by decide) ?_
                  refine u_iadd hx hb dX12_deal_175 (fun x204 => ?_)
                  have hk205 : (5 : Int32).toInt = 5 := rfl
                  refine gs_822 E hW rR (by decide) (fun hc => rr_up hc (by omega) (by omega) (by unfold rbI; omega)) dX12_deal_176 (fun f206 H locs e207 n208 g209 hW => ?_)
                  have z210 : RF rw_X12_deal f0 f206 h0 := rf_st (lo := 5) (hi := 5) z197 mR e207 (by decide) rfl
                  have hF := FM.tr hF g209 rfl
                  refine lv_aload_n hx hb dX12_deal_177 rfl (lv_at hl 2 rfl) ?_
                  refine lv_aload_n hx hb dX12_deal_178 rfl (lv_at hl 2 rfl) ?_
                  refine fg_RX12_8 E hW rh0 dX12_deal_179 (fun a211 m212 r213 => ?_)
                  obtain rfl : pR = a211 := (((fm_R g209 rh0 rfl).trans m199)).symm.trans m212
                  refine lv_iconst (v := 5) hx hb dX12_deal_182 (by decide) ?_
                  refine gl_822 E hW rR (by decide) dX12_deal_183 (fun y214 m215 b216 => ?_)
                  obtain rfl : x204 = y214 := ((show aI (f206 pR) (5 : Int32).toNatClampNeg = x204 from by rw [e207]; exact up_s)).symm.trans m215
                  refine t_callV (As := [.int x204]) (rest := []) E hW (c_X12_told l G cI cJ cZ cD cR cT kp L f206 hW.2.2.2 _ h0 x204 rh0) rh0 (by decide) rfl wk_X12_told tw_1557 rfl ⟨Nat.le_of_ble_eq_true rfl, Nat.le_of_ble_eq_true rfl⟩ ⟨rfl, rfl⟩ hl.1 rfl (Nat.le_of_ble_eq_true rfl) dX12_deal_184 ⟨Nat.le_of_ble_eq_true rfl, Nat.le_of_ble_eq_true rfl⟩ (fun v217 f218 H locs q219 hW => ?_)
                  obtain ⟨⟨x221, rfl, p222⟩, g220⟩ := q219
                  clear p222
                  have z223 : RF rw_X12_deal f0 f218 h0 := rf_fm hTH z210 g220 rh0 rfl
                  have hF := FM.tr hF g220 rfl
                  exact e_I E hW rfl ⟨⟨_, rfl, trivial⟩, hF, z223⟩ dX12_deal_187
                · refine lv_aload_n hx hb dX12_deal_140 rfl (lv_at hl 2 rfl) ?_
                  refine lv_bipush (v := (-5)) hx hb dX12_deal_141 (by decide) ?_
                  refine t_callV (As := [.int (-5)]) (rest := []) E hW (c_X12_told l G cI cJ cZ cD cR cT kp L f162 hW.2.2.2 _ h0 (-5) rh0) rh0 (by decide) rfl wk_X12_told tw_1557 rfl ⟨Nat.le_of_ble_eq_true rfl, Nat.le_of_ble_eq_true rfl⟩ ⟨rfl, rfl⟩ hl.1 rfl (Nat.le_of_ble_eq_true rfl) dX12_deal_143 ⟨Nat.le_of_ble_eq_true rfl, Nat.le_of_ble_eq_true rfl⟩ (fun v224 f225 H locs q226 hW => ?_)
                  obtain ⟨⟨x228, rfl, p229⟩, g227⟩ := q226
                  clear p229
                  have m230 : aI (f225 pR) (x93 : Int32).toNatClampNeg = y95 := ((congrArg (fun z => aI z (x93 : Int32).toNatClampNeg) (fm_A g227 rR (by decide) rfl)).trans ((congrArg (fun z => aI z (x93 : Int32).toNatClampNeg) (fm_A g164 rR (by decide) rfl)).trans m96))
                  have z231 : RF rw_X12_deal f0 f225 h0 := rf_fm hTH z167 g227 rh0 rfl
                  have hF := FM.tr hF g227 rfl
                  exact e_I E hW rfl ⟨⟨_, rfl, trivial⟩, hF, z231⟩ dX12_deal_146
              · refine lv_aload_n hx hb dX12_deal_121 rfl (lv_at hl 2 rfl) ?_
                refine lv_bipush (v := (-3)) hx hb dX12_deal_122 (by decide) ?_
                refine t_callV (As := [.int (-3)]) (rest := []) E hW (c_X12_told l G cI cJ cZ cD cR cT kp L f162 hW.2.2.2 _ h0 (-3) rh0) rh0 (by decide) rfl wk_X12_told tw_1557 rfl ⟨Nat.le_of_ble_eq_true rfl, Nat.le_of_ble_eq_true rfl⟩ ⟨rfl, rfl⟩ hl.1 rfl (Nat.le_of_ble_eq_true rfl) dX12_deal_124 ⟨Nat.le_of_ble_eq_true rfl, Nat.le_of_ble_eq_true rfl⟩ (fun v232 f233 H locs q234 hW => ?_)
                obtain ⟨⟨x236, rfl, p237⟩, g235⟩ := q234
                clear p237
                have m238 : aI (f233 pR) (x93 : Int32).toNatClampNeg = y95 := ((congrArg (fun z => aI z (x93 : Int32).toNatClampNeg) (fm_A g235 rR (by decide) rfl)).trans ((congrArg (fun z => aI z (x93 : Int32).toNatClampNeg) (fm_A g164 rR (by decide) rfl)).trans m96))
                have z239 : RF rw_X12_deal f0 f233 h0 := rf_fm hTH z167 g235 rh0 rfl
                have hF := FM.tr hF g235 rfl
                exact e_I E hW rfl ⟨⟨_, rfl, trivial⟩, hF, z239⟩ dX12_deal_127
        refine q_icmp_eq (tgt := 90) hx hb dX12_deal_54 (by decide) rfl rfl (fun c240 => ?_) (fun c240 => ?_)
        · refine lv_iconst (v := 0) hx hb dX12_deal_90 (by decide) ?_
          exact J81 f44 0 ((fm_I g46 rh0 rfl).trans ((fm_I g37 rh0 rfl).trans ((fm_I g21 rh0 rfl).trans ((fm_I g12 rh0 rfl).trans e2)))) ((fm_R g46 rh0 rfl).trans ((fm_R g37 rh0 rfl).trans ((fm_R g21 rh0 rfl).trans ((fm_R g12 rh0 rfl).trans ((fm_R g4 rh0 rfl).trans mR))))) (by decide) z49 _ _ _ hW hF (lv_sub hl [0, 1, 2, 3, 4] rfl)
        · refine lv_aload_n hx hb dX12_deal_57 rfl (lv_at hl 1 rfl) ?_
          refine fg_RX12_8 E hW rh0 dX12_deal_58 (fun a241 m242 r243 => ?_)
          obtain rfl : pR = a241 := (((fm_R g46 rh0 rfl).trans ((fm_R g37 rh0 rfl).trans ((fm_R g21 rh0 rfl).trans ((fm_R g12 rh0 rfl).trans ((fm_R g4 rh0 rfl).trans mR)))))).symm.trans m242
          refine lv_iload hx hb dX12_deal_61 (lv_at hl 0 rfl) ?_
          refine lv_iconst (v := 1) hx hb dX12_deal_63 (by decide) ?_
          refine q_iadd (Y := 1) hx hb dX12_deal_64 rfl rfl (by omega) (fun x244 h245 => ?_)
          refine gl_822 E hW rR ⟨by omega, by omega⟩ dX12_deal_65 (fun y246 m247 b248 => ?_)
          refine lv_iload_n hx hb dX12_deal_66 rfl (lv_at hl 4 rfl) ?_
          refine q_icmp_lt (tgt := 90) hx hb dX12_deal_67 (by decide) rfl rfl (fun c249 => ?_) (fun c249 => ?_)
          · refine lv_iconst (v := 0) hx hb dX12_deal_90 (by decide) ?_
            exact J81 f44 0 ((fm_I g46 rh0 rfl).trans ((fm_I g37 rh0 rfl).trans ((fm_I g21 rh0 rfl).trans ((fm_I g12 rh0 rfl).trans e2)))) m242 (by decide) z49 _ _ _ hW hF (lv_sub hl [0, 1, 2, 3, 4] rfl)
          · refine lv_aload_n hx hb dX12_deal_70 rfl (lv_at hl 1 rfl) ?_
            refine lv_iload_n hx hb dX12_deal_71 rfl (lv_at hl 2 rfl) ?_
            refine t_callV (As := [.int u1]) (rest := []) E hW (c_X12_isAbout l G cI cJ cZ cD cR cT kp L f44 hW.2.2.2 _ h0 u1 rh0 (by omega)) rh0 (by decide) rfl wk_X12_isAbout tw_1970 rfl ⟨Nat.le_of_ble_eq_true rfl, Nat.le_of_ble_eq_true rfl⟩ ⟨rfl, rfl⟩ hl.1 rfl (Nat.le_of_ble_eq_true rfl) dX12_deal_72 ⟨Nat.le_of_ble_eq_true rfl, Nat.le_of_ble_eq_true rfl⟩ (fun v250 f251 H locs q252 hW => ?_)
            obtain ⟨⟨x254, rfl, p255⟩, g253⟩ := q252
            have z256 : RF rw_X12_deal f0 f251 h0 := rf_fm hTH z49 g253 rh0 rfl
            have hF := FM.tr hF g253 rfl
            refine q_if_eq (tgt := 90) hx hb dX12_deal_75 (by decide) rfl (fun c257 => ?_) (fun c257 => ?_)
            · refine lv_iconst (v := 0) hx hb dX12_deal_90 (by decide) ?_
              exact J81 f251 0 ((fm_I g253 rh0 rfl).trans ((fm_I g46 rh0 rfl).trans ((fm_I g37 rh0 rfl).trans ((fm_I g21 rh0 rfl).trans ((fm_I g12 rh0 rfl).trans e2))))) ((fm_R g253 rh0 rfl).trans m242) (by decide) z256 _ _ _ hW hF (lv_sub hl [0, 1, 2, 3, 4] rfl)
            · refine lv_aload_n hx hb dX12_deal_78 rfl (lv_at hl 1 rfl) ?_
              refine lv_iload_n hx hb dX12_deal_79 rfl (lv_at hl 3 rfl) ?_
              refine t_callV (As := [.int u2]) (rest := []) E hW (c_X12_isAbout l G cI cJ cZ cD cR cT kp L f251 hW.2.2.2 _ h0 u2 rh0 (by omega)) rh0 (by decide) rfl wk_X12_isAbout tw_1970 rfl ⟨Nat.le_of_ble_eq_true rfl, Nat.le_of_ble_eq_true rfl⟩ ⟨rfl, rfl⟩ hl.1 rfl (Nat.le_of_ble_eq_true rfl) dX12_deal_80 ⟨Nat.le_of_ble_eq_true rfl, Nat.le_of_ble_eq_true rfl⟩ (fun v258 f259 H locs q260 hW => ?_)
              obtain ⟨⟨x262, rfl, p263⟩, g261⟩ := q260
              have m264 : aI (f259 pR) (x244 : Int32).toNatClampNeg = y246 := ((congrArg (fun z => aI z (x244 : Int32).toNatClampNeg) (fm_A g261 rR (by decide) rfl)).trans ((congrArg (fun z => aI z (x244 : Int32).toNatClampNeg) (fm_A g253 rR (by decide) rfl)).trans m247))
              have z265 : RF rw_X12_deal f0 f259 h0 := rf_fm hTH z256 g261 rh0 rfl
              have hF := FM.tr hF g261 rfl
              refine q_if_eq (tgt := 90) hx hb dX12_deal_83 (by decide) rfl (fun c266 => ?_) (fun c266 => ?_)
              · refine lv_iconst (v := 0) hx hb dX12_deal_90 (by decide) ?_
                exact J81 f259 0 ((fm_I g261 rh0 rfl).trans ((fm_I g253 rh0 rfl).trans ((fm_I g46 rh0 rfl).trans ((fm_I g37 rh0 rfl).trans ((fm_I g21 rh0 rfl).trans ((fm_I g12 rh0 rfl).trans e2)))))) ((fm_R g261 rh0 rfl).trans ((fm_R g253 rh0 rfl).trans m242)) (by decide) z265 _ _ _ hW hF (lv_sub hl [0, 1, 2, 3, 4] rfl)
              · refine lv_iconst (v := 1) hx hb dX12_deal_86 (by decide) ?_
                refine lv_goto (tgt := 91) hx hb dX12_deal_87 (by decide) ?_
                exact J81 f259 1 ((fm_I g261 rh0 rfl).trans ((fm_I g253 rh0 rfl).trans ((fm_I g46 rh0 rfl).trans ((fm_I g37 rh0 rfl).trans ((fm_I g21 rh0 rfl).trans ((fm_I g12 rh0 rfl).trans e2)))))) ((fm_R g261 rh0 rfl).trans ((fm_R g253 rh0 rfl).trans m242)) (by decide) z265 _ _ _ hW hF (lv_sub hl [0, 1, 2, 3, 4] rfl)
      · clear p39
        refine lv_aload_n hx hb dX12_deal_39 rfl (lv_at hl 0 rfl) ?_
        refine lv_bipush (v := (-2)) hx hb dX12_deal_40 (by decide) ?_
        refine t_callV (As := [.int (-2)]) (rest := []) E hW (c_X12_told l G cI cJ cZ cD cR cT kp L f35 hW.2.2.2 _ h0 (-2) rh0) rh0 (by decide) rfl wk_X12_told tw_1557 rfl ⟨Nat.le_of_ble_eq_true rfl, Nat.le_of_ble_eq_true rfl⟩ ⟨rfl, rfl⟩ hl.1 rfl (Nat.le_of_ble_eq_true rfl) dX12_deal_42 ⟨Nat.le_of_ble_eq_true rfl, Nat.le_of_ble_eq_true rfl⟩ (fun v267 f268 H locs q269 hW => ?_)
        obtain ⟨⟨x271, rfl, p272⟩, g270⟩ := q269
        clear p272
        have z273 : RF rw_X12_deal f0 f268 h0 := rf_fm hTH z40 g270 rh0 rfl
        have hF := FM.tr hF g270 rfl
        exact e_I E hW rfl ⟨⟨_, rfl, trivial⟩, hF, z273⟩ dX12_deal_45
  · have q274 : (x6.toInt < 1 ∨ 10000 < x6.toInt) := by omega
    clear p14
    refine lv_aload_n hx hb dX12_deal_17 rfl (lv_at hl 0 rfl) ?_
    refine lv_iconst (v := (-1)) hx hb dX12_deal_18 (by decide) ?_
    refine t_callV (As := [.int (-1)]) (rest := []) E hW (c_X12_told l G cI cJ cZ cD cR cT kp L f10 hW.2.2.2 _ h0 (-1) rh0) rh0 (by decide) rfl wk_X12_told tw_1557 rfl ⟨Nat.le_of_ble_eq_true rfl, Nat.le_of_ble_eq_true rfl⟩ ⟨rfl, rfl⟩ hl.1 rfl (Nat.le_of_ble_eq_true rfl) dX12_deal_19 ⟨Nat.le_of_ble_eq_true rfl, Nat.le_of_ble_eq_true rfl⟩ (fun v275 f276 H locs q277 hW => ?_)
    obtain ⟨⟨x279, rfl, p280⟩, g278⟩ := q277
    clear p280
    have z281 : RF rw_X12_deal f0 f276 h0 := rf_fm hTH z15 g278 rh0 rfl
    have hF := FM.tr hF g278 rfl
    exact e_I E hW rfl ⟨⟨_, rfl, trivial⟩, hF, z281⟩ dX12_deal_22
def rw_X12_brave : List (Nat × Nat) := [(10, 10)]
def ms_X12_brave : List (Nat × Nat) := [(12, 0), (12, 1), (822, 0)]
def po_X12_brave (kp : Nat → Nat) (L : List Nat) (f0 : Nat → va_E) (h0 : Nat) (u1 : Int32) : Option Value → (Nat → va_E) → Prop := fun v f => (∃ r : Int32, v = some (.int r) ∧ (True)) ∧ FM kp L ms_X12_brave f0 f ∧ (RF rw_X12_brave f0 f h0)
set_option maxHeartbeats 4000000 in
set_option maxRecDepth 100000 in
theorem c_X12_brave (l : Launch) (G : va_G) (cI cJ cZ cD cR cT : ClassId) (kp : Nat → Nat) (L : List Nat) (f0 : Nat → va_E) (hTH : TH cI cJ cZ cD cR cT kp L f0) (sz : Nat) (h0 : Nat) (u1 : Int32) (rh0 : RK kp L h0 12) : Met l yX12_brave (Cond.code yX12_brave cX12_brave 3 (some .int) :: wTab) ({ frames := 2, cells := 0, slots := 0, locals := 65 }) (va_Pc [.ref h0, .int u1] (PreW G (tys6 cI cJ cZ cD cR cT) (va_pl L f0) sz)) (QT (po_X12_brave kp L f0 h0 u1) G cI cJ cZ cD cR cT (va_A (va_pl L f0) sz) kp L) 0 0 (va_A (va_pl L f0) sz) := by
  refine metT (by decide) (Nat.le_of_ble_eq_true rfl) hTH ?_
  intro p e s m below meth c A ls E hW hl
  obtain ⟨hx, hb, -, hml, hown, hts, -, -, -⟩ := id E
  have hF : FM kp L ms_X12_brave f0 f0 := FM.rf
  have hl : lv_has ls 3 [(0, .ref h0), (1, .int u1)] := hl
  obtain ⟨pR, mR⟩ : ∃ x : Nat, oR (f0 h0) 2 = x := ⟨_, rfl⟩
  have rR : RK kp L pR 822 := by rw [← mR]; exact th_ref hTH rh0 (by decide) (by decide) rfl
  refine lv_aload_n hx hb dX12_brave_0 rfl (lv_at hl 0 rfl) ?_
  refine lv_iconst (v := 0) hx hb dX12_brave_1 (by decide) ?_
  refine fp_RX12_82 E hW rh0 dX12_brave_2 (fun f1 H locs e2 n3 g4 hW => ?_)
  have z5 : RF rw_X12_brave f0 f1 h0 := rf_fm hTH rf_rf g4 rh0 rfl
  have hF := FM.tr hF g4 rfl
  refine lv_iload_n hx hb dX12_brave_5 rfl (lv_at hl 1 rfl) ?_
  refine q_i2l hx hb dX12_brave_6 rfl (fun x6 h7 => ?_)
  have hb8 : -2147483648 ≤ x6.toInt ∧ x6.toInt ≤ 2147483647 := by have := i32_b u1; omega
  refine lv_lconst (v := 0) hx hb dX12_brave_7 (by decide) ?_
  refine lv_ldc2 (v := 101) hx hb hown (hts _ tw_1982) dX12_brave_8 ?_
  refine t_callS (As := [.long x6, .long 0, .long 101]) (rest := []) E hW (c_X12_in l G cI cJ cZ cD cR cT kp L f1 hW.2.2.2 _ x6 0 101) wk_X12_in tw_1554 rfl ⟨Nat.le_of_ble_eq_true rfl, Nat.le_of_ble_eq_true rfl⟩ ⟨rfl, rfl⟩ hl.1 rfl (Nat.le_of_ble_eq_true rfl) dX12_brave_11 ⟨Nat.le_of_ble_eq_true rfl, Nat.le_of_ble_eq_true rfl⟩ (fun v9 f10 H locs q11 hW => ?_)
  obtain ⟨⟨x13, rfl, p14⟩, g12⟩ := q11
  have p14 : (x13.toInt = 1 ∧ 0 ≤ x6.toInt ∧ x6.toInt ≤ 101) ∨ (x13.toInt = 0 ∧ (x6.toInt < 0 ∨ 101 < x6.toInt)) := p14
  have z15 : RF rw_X12_brave f0 f10 h0 := rf_fm hTH z5 g12 rh0 rfl
  have hF := FM.tr hF g12 rfl
  refine q_if_ne (tgt := 23) hx hb dX12_brave_14 (by decide) rfl (fun c16 => ?_) (fun c16 => ?_)
  · have q17 : 0 ≤ x6.toInt ∧ x6.toInt ≤ 101 := by omega
    clear p14
    refine lv_aload_n hx hb dX12_brave_23 rfl (lv_at hl 0 rfl) ?_
    refine fg_RX12_8 E hW rh0 dX12_brave_24 (fun a18 m19 r20 => ?_)
    obtain rfl : pR = a18 := (((fm_R g12 rh0 rfl).trans ((fm_R g4 rh0 rfl).trans mR))).symm.trans m19
    refine lv_bipush (v := 10) hx hb dX12_brave_27 (by decide) ?_
    refine gl_822 E hW rR (by decide) dX12_brave_29 (fun y21 m22 b23 => ?_)
    refine lv_istore_n (lv' := [(2, .int y21), (0, .ref h0), (1, .int u1)]) hx hb dX12_brave_30 rfl hl (by decide) rfl (fun ls hl => ?_)
    refine lv_aload_n hx hb dX12_brave_31 rfl (lv_at hl 1 rfl) ?_
    refine fg_RX12_8 E hW rh0 dX12_brave_32 (fun a24 m25 r26 => ?_)
    obtain rfl : pR = a24 := (m19).symm.trans m25
    refine lv_bipush (v := 10) hx hb dX12_brave_35 (by decide) ?_
    refine lv_iload_n hx hb dX12_brave_37 rfl (lv_at hl 2 rfl) ?_
    have hk27 : (10 : Int32).toInt = 10 := rfl
    refine gs_822 E hW rR (by decide) (fun hc => rr_up hc (by omega) (by omega) (by unfold rbI; omega)) dX12_brave_38 (fun f28 H locs e29 n30 g31 hW => ?_)
    have z32 : RF rw_X12_brave f0 f28 h0 := rf_st (lo := 10) (hi := 10) z15 mR e29 (by decide) rfl
    have hF := FM.tr hF g31 rfl
    refine lv_aload_n hx hb dX12_brave_39 rfl (lv_at hl 1 rfl) ?_
    refine lv_iload_n hx hb dX12_brave_40 rfl (lv_at hl 0 rfl) ?_
    refine t_callV (As := [.int y21]) (rest := []) E hW (c_X12_told l G cI cJ cZ cD cR cT kp L f28 hW.2.2.2 _ h0 y21 rh0) rh0 (by decide) rfl wk_X12_told tw_1557 rfl ⟨Nat.le_of_ble_eq_true rfl, Nat.le_of_ble_eq_true rfl⟩ ⟨rfl, rfl⟩ hl.1 rfl (Nat.le_of_ble_eq_true rfl) dX12_brave_41 ⟨Nat.le_of_ble_eq_true rfl, Nat.le_of_ble_eq_true rfl⟩ (fun v33 f34 H locs q35 hW => ?_)
    obtain ⟨⟨x37, rfl, p38⟩, g36⟩ := q35
    clear p38
    have z39 : RF rw_X12_brave f0 f34 h0 := rf_fm hTH z32 g36 rh0 rfl
    have hF := FM.tr hF g36 rfl
    exact e_I E hW rfl ⟨⟨_, rfl, trivial⟩, hF, z39⟩ dX12_brave_44
  · have q40 : (x6.toInt < 0 ∨ 101 < x6.toInt) := by omega
    clear p14
    refine lv_aload_n hx hb dX12_brave_17 rfl (lv_at hl 0 rfl) ?_
    refine lv_iconst (v := (-1)) hx hb dX12_brave_18 (by decide) ?_
    refine t_callV (As := [.int (-1)]) (rest := []) E hW (c_X12_told l G cI cJ cZ cD cR cT kp L f10 hW.2.2.2 _ h0 (-1) rh0) rh0 (by decide) rfl wk_X12_told tw_1557 rfl ⟨Nat.le_of_ble_eq_true rfl, Nat.le_of_ble_eq_true rfl⟩ ⟨rfl, rfl⟩ hl.1 rfl (Nat.le_of_ble_eq_true rfl) dX12_brave_19 ⟨Nat.le_of_ble_eq_true rfl, Nat.le_of_ble_eq_true rfl⟩ (fun v41 f42 H locs q43 hW => ?_)
    obtain ⟨⟨x45, rfl, p46⟩, g44⟩ := q43
    clear p46
    have z47 : RF rw_X12_brave f0 f42 h0 := rf_fm hTH z15 g44 rh0 rfl
    have hF := FM.tr hF g44 rfl
    exact e_I E hW rfl ⟨⟨_, rfl, trivial⟩, hF, z47⟩ dX12_brave_22
def ms_X12_keeps : List (Nat × Nat) := [(12, 0)]
def po_X12_keeps (kp : Nat → Nat) (L : List Nat) (f0 : Nat → va_E) (h0 : Nat) (u1 : Int32) (u2 : Int32) : Option Value → (Nat → va_E) → Prop := fun v f => (∃ r : Int32, v = some (.int r) ∧ ((-1 : Int) ≤ r.toInt ∧ r.toInt ≤ 1)) ∧ FM kp L ms_X12_keeps f0 f
set_option maxHeartbeats 4000000 in
set_option maxRecDepth 100000 in
theorem c_X12_keeps (l : Launch) (G : va_G) (cI cJ cZ cD cR cT : ClassId) (kp : Nat → Nat) (L : List Nat) (f0 : Nat → va_E) (hTH : TH cI cJ cZ cD cR cT kp L f0) (sz : Nat) (h0 : Nat) (u1 : Int32) (u2 : Int32) (rh0 : RK kp L h0 12) : Met l yX12_keeps (Cond.code yX12_keeps cX12_keeps 3 (some .int) :: wTab) ({ frames := 3, cells := 0, slots := 0, locals := 86 }) (va_Pc [.ref h0, .int u1, .int u2] (PreW G (tys6 cI cJ cZ cD cR cT) (va_pl L f0) sz)) (QT (po_X12_keeps kp L f0 h0 u1 u2) G cI cJ cZ cD cR cT (va_A (va_pl L f0) sz) kp L) 0 0 (va_A (va_pl L f0) sz) := by
  refine metT (by decide) (Nat.le_of_ble_eq_true rfl) hTH ?_
  intro p e s m below meth c A ls E hW hl
  obtain ⟨hx, hb, -, hml, hown, hts, -, -, -⟩ := id E
  have hF : FM kp L ms_X12_keeps f0 f0 := FM.rf
  have hl : lv_has ls 3 [(0, .ref h0), (1, .int u1), (2, .int u2)] := hl
  obtain ⟨pR, mR⟩ : ∃ x : Nat, oR (f0 h0) 2 = x := ⟨_, rfl⟩
  have rR : RK kp L pR 822 := by rw [← mR]; exact th_ref hTH rh0 (by decide) (by decide) rfl
  refine lv_aload_n hx hb dX12_keeps_0 rfl (lv_at hl 0 rfl) ?_
  refine lv_iconst (v := 0) hx hb dX12_keeps_1 (by decide) ?_
  refine fp_RX12_82 E hW rh0 dX12_keeps_2 (fun f1 H locs e2 n3 g4 hW => ?_)
  have hF := FM.tr hF g4 rfl
  refine lv_aload_n hx hb dX12_keeps_5 rfl (lv_at hl 0 rfl) ?_
  refine lv_iload_n hx hb dX12_keeps_6 rfl (lv_at hl 1 rfl) ?_
  refine t_callV (As := [.int u1]) (rest := []) E hW (c_X12_isPerson l G cI cJ cZ cD cR cT kp L f1 hW.2.2.2 _ h0 u1 rh0) rh0 (by decide) rfl wk_X12_isPerson tw_1583 rfl ⟨Nat.le_of_ble_eq_true rfl, Nat.le_of_ble_eq_true rfl⟩ ⟨rfl, rfl⟩ hl.1 rfl (Nat.le_of_ble_eq_true rfl) dX12_keeps_7 ⟨Nat.le_of_ble_eq_true rfl, Nat.le_of_ble_eq_true rfl⟩ (fun v5 f6 H locs q7 hW => ?_)
  obtain ⟨⟨x9, rfl, p10⟩, g8⟩ := q7
  have hF := FM.tr hF g8 rfl
  have J32 : ∀ (f27 : Nat → va_E) (y30 : Int32) (m28 : oI (f27 h0) 0 = 0) (m29 : oR (f27 h0) 2 = pR) (b31 : (-1 : Int) ≤ y30.toInt ∧ y30.toInt ≤ 1) (H : Heap) (locs : List Loc) (ls : Array Slot), WS G cI cJ cZ cD cR cT A kp L f27 s H locs → FM kp L ms_X12_keeps f0 f27 → lv_has ls 3 [(0, .ref h0), (1, .int u1), (2, .int u2)] → W p l e ({ frames := 3, cells := 0, slots := 0, locals := 86 }) s m ([.ref h0, .int u1, .int u2] : List Value).toArray below meth c H locs 0 0 (MQ below (QT (po_X12_keeps kp L f0 h0 u1 u2) G cI cJ cZ cD cR cT A kp L) ([.ref h0, .int u1, .int u2] : List Value).toArray s 0 0 A) (F0 m 44 ls [.int y30]) := by
    intro f27 y30 m28 m29 b31 H locs ls hW hF hl
    exact e_I E hW rfl ⟨⟨_, rfl, (by first | omega | trivial)⟩, hF⟩ dX12_keeps_44
  refine q_if_eq (tgt := 43) hx hb dX12_keeps_10 (by decide) rfl (fun c33 => ?_) (fun c33 => ?_)
  · clear p10
    refine lv_iconst (v := (-1)) hx hb dX12_keeps_43 (by decide) ?_
    exact J32 f6 (-1) ((fm_I g8 rh0 rfl).trans e2) ((fm_R g8 rh0 rfl).trans ((fm_R g4 rh0 rfl).trans mR)) (by decide) _ _ _ hW hF (lv_sub hl [0, 1, 2] rfl)
  · have q34 : 0 ≤ u1.toInt ∧ u1.toInt ≤ 39 := by omega
    clear p10
    refine lv_aload_n hx hb dX12_keeps_13 rfl (lv_at hl 0 rfl) ?_
    refine lv_iload_n hx hb dX12_keeps_14 rfl (lv_at hl 2 rfl) ?_
    refine t_callV (As := [.int u2]) (rest := []) E hW (c_X12_isPerson l G cI cJ cZ cD cR cT kp L f6 hW.2.2.2 _ h0 u2 rh0) rh0 (by decide) rfl wk_X12_isPerson tw_1583 rfl ⟨Nat.le_of_ble_eq_true rfl, Nat.le_of_ble_eq_true rfl⟩ ⟨rfl, rfl⟩ hl.1 rfl (Nat.le_of_ble_eq_true rfl) dX12_keeps_15 ⟨Nat.le_of_ble_eq_true rfl, Nat.le_of_ble_eq_true rfl⟩ (fun v35 f36 H locs q37 hW => ?_)
    obtain ⟨⟨x39, rfl, p40⟩, g38⟩ := q37
    have hF := FM.tr hF g38 rfl
    refine q_if_eq (tgt := 43) hx hb dX12_keeps_18 (by decide) rfl (fun c41 => ?_) (fun c41 => ?_)
    · clear p40
      refine lv_iconst (v := (-1)) hx hb dX12_keeps_43 (by decide) ?_
      exact J32 f36 (-1) ((fm_I g38 rh0 rfl).trans ((fm_I g8 rh0 rfl).trans e2)) ((fm_R g38 rh0 rfl).trans ((fm_R g8 rh0 rfl).trans ((fm_R g4 rh0 rfl).trans mR))) (by decide) _ _ _ hW hF (lv_sub hl [0, 1, 2] rfl)
    · have q42 : 0 ≤ u2.toInt ∧ u2.toInt ≤ 39 := by omega
      clear p40
      refine lv_iload_n hx hb dX12_keeps_21 rfl (lv_at hl 1 rfl) ?_
      refine lv_iload_n hx hb dX12_keeps_22 rfl (lv_at hl 2 rfl) ?_
      refine q_icmp_eq (tgt := 43) hx hb dX12_keeps_23 (by decide) rfl rfl (fun c43 => ?_) (fun c43 => ?_)
      · refine lv_iconst (v := (-1)) hx hb dX12_keeps_43 (by decide) ?_
        exact J32 f36 (-1) ((fm_I g38 rh0 rfl).trans ((fm_I g8 rh0 rfl).trans e2)) ((fm_R g38 rh0 rfl).trans ((fm_R g8 rh0 rfl).trans ((fm_R g4 rh0 rfl).trans mR))) (by decide) _ _ _ hW hF (lv_sub hl [0, 1, 2] rfl)
      · refine lv_aload_n hx hb dX12_keeps_26 rfl (lv_at hl 0 rfl) ?_
        refine lv_iload_n hx hb dX12_keeps_27 rfl (lv_at hl 1 rfl) ?_
        refine lv_iload_n hx hb dX12_keeps_28 rfl (lv_at hl 2 rfl) ?_
        refine t_callV (As := [.int u1, .int u2]) (rest := []) E hW (c_X12_keepsBan l G cI cJ cZ cD cR cT kp L f36 hW.2.2.2 _ h0 u1 u2 rh0 (by omega) (by omega)) rh0 (by decide) rfl wk_X12_keepsBan tw_1974 rfl ⟨Nat.le_of_ble_eq_true rfl, Nat.le_of_ble_eq_true rfl⟩ ⟨rfl, rfl⟩ hl.1 rfl (Nat.le_of_ble_eq_true rfl) dX12_keeps_29 ⟨Nat.le_of_ble_eq_true rfl, Nat.le_of_ble_eq_true rfl⟩ (fun v44 f45 H locs q46 hW => ?_)
        obtain ⟨⟨x48, rfl, p49⟩, g47⟩ := q46
        have hF := FM.tr hF g47 rfl
        refine q_if_eq (tgt := 39) hx hb dX12_keeps_32 (by decide) rfl (fun c50 => ?_) (fun c50 => ?_)
        · refine lv_iconst (v := 0) hx hb dX12_keeps_39 (by decide) ?_
          refine lv_goto (tgt := 44) hx hb dX12_keeps_40 (by decide) ?_
          exact J32 f45 0 ((fm_I g47 rh0 rfl).trans ((fm_I g38 rh0 rfl).trans ((fm_I g8 rh0 rfl).trans e2))) ((fm_R g47 rh0 rfl).trans ((fm_R g38 rh0 rfl).trans ((fm_R g8 rh0 rfl).trans ((fm_R g4 rh0 rfl).trans mR)))) (by decide) _ _ _ hW hF (lv_sub hl [0, 1, 2] rfl)
        · refine lv_iconst (v := 1) hx hb dX12_keeps_35 (by decide) ?_
          refine lv_goto (tgt := 44) hx hb dX12_keeps_36 (by decide) ?_
          exact J32 f45 1 ((fm_I g47 rh0 rfl).trans ((fm_I g38 rh0 rfl).trans ((fm_I g8 rh0 rfl).trans e2))) ((fm_R g47 rh0 rfl).trans ((fm_R g38 rh0 rfl).trans ((fm_R g8 rh0 rfl).trans ((fm_R g4 rh0 rfl).trans mR)))) (by decide) _ _ _ hW hF (lv_sub hl [0, 1, 2] rfl)
def ms_X12_broke : List (Nat × Nat) := [(12, 0)]
def po_X12_broke (kp : Nat → Nat) (L : List Nat) (f0 : Nat → va_E) (h0 : Nat) (u1 : Int32) (u2 : Int32) (u3 : Int32) (u4 : Int32) : Option Value → (Nat → va_E) → Prop := fun v f => (∃ r : Int32, v = some (.int r) ∧ (True)) ∧ FM kp L ms_X12_broke f0 f
set_option maxHeartbeats 4000000 in
set_option maxRecDepth 100000 in
theorem c_X12_broke (l : Launch) (G : va_G) (cI cJ cZ cD cR cT : ClassId) (kp : Nat → Nat) (L : List Nat) (f0 : Nat → va_E) (hTH : TH cI cJ cZ cD cR cT kp L f0) (sz : Nat) (h0 : Nat) (u1 : Int32) (u2 : Int32) (u3 : Int32) (u4 : Int32) (rh0 : RK kp L h0 12) : Met l yX12_broke (Cond.code yX12_broke cX12_broke 9 (some .int) :: wTab) ({ frames := 3, cells := 0, slots := 0, locals := 86 }) (va_Pc [.ref h0, .int u1, .int u2, .int u3, .int u4] (PreW G (tys6 cI cJ cZ cD cR cT) (va_pl L f0) sz)) (QT (po_X12_broke kp L f0 h0 u1 u2 u3 u4) G cI cJ cZ cD cR cT (va_A (va_pl L f0) sz) kp L) 0 0 (va_A (va_pl L f0) sz) := by
  refine metT (by decide) (Nat.le_of_ble_eq_true rfl) hTH ?_
  intro p e s m below meth c A ls E hW hl
  obtain ⟨hx, hb, -, hml, hown, hts, -, -, -⟩ := id E
  have hF : FM kp L ms_X12_broke f0 f0 := FM.rf
  have hl : lv_has ls 9 [(0, .ref h0), (1, .int u1), (2, .int u2), (3, .int u3), (4, .int u4)] := hl
  obtain ⟨pR, mR⟩ : ∃ x : Nat, oR (f0 h0) 2 = x := ⟨_, rfl⟩
  have rR : RK kp L pR 822 := by rw [← mR]; exact th_ref hTH rh0 (by decide) (by decide) rfl
  refine lv_aload_n hx hb dX12_broke_0 rfl (lv_at hl 0 rfl) ?_
  refine lv_iconst (v := 0) hx hb dX12_broke_1 (by decide) ?_
  refine fp_RX12_82 E hW rh0 dX12_broke_2 (fun f1 H locs e2 n3 g4 hW => ?_)
  have hF := FM.tr hF g4 rfl
  refine lv_aload_n hx hb dX12_broke_5 rfl (lv_at hl 0 rfl) ?_
  refine lv_iload_n hx hb dX12_broke_6 rfl (lv_at hl 1 rfl) ?_
  refine t_callV (As := [.int u1]) (rest := []) E hW (c_X12_isPerson l G cI cJ cZ cD cR cT kp L f1 hW.2.2.2 _ h0 u1 rh0) rh0 (by decide) rfl wk_X12_isPerson tw_1583 rfl ⟨Nat.le_of_ble_eq_true rfl, Nat.le_of_ble_eq_true rfl⟩ ⟨rfl, rfl⟩ hl.1 rfl (Nat.le_of_ble_eq_true rfl) dX12_broke_7 ⟨Nat.le_of_ble_eq_true rfl, Nat.le_of_ble_eq_true rfl⟩ (fun v5 f6 H locs q7 hW => ?_)
  obtain ⟨⟨x9, rfl, p10⟩, g8⟩ := q7
  have hF := FM.tr hF g8 rfl
  refine q_if_eq (tgt := 52) hx hb dX12_broke_10 (by decide) rfl (fun c11 => ?_) (fun c11 => ?_)
  · clear p10
    refine lv_iconst (v := (-1)) hx hb dX12_broke_52 (by decide) ?_
    exact e_I E hW rfl ⟨⟨_, rfl, trivial⟩, hF⟩ dX12_broke_53
  · have q12 : 0 ≤ u1.toInt ∧ u1.toInt ≤ 39 := by omega
    clear p10
    refine lv_iload_n hx hb dX12_broke_13 rfl (lv_at hl 2 rfl) ?_
    refine q_i2l hx hb dX12_broke_14 rfl (fun x13 h14 => ?_)
    have hb15 : -2147483648 ≤ x13.toInt ∧ x13.toInt ≤ 2147483647 := by have := i32_b u2; omega
    refine lv_lconst (v := 1) hx hb dX12_broke_15 (by decide) ?_
    refine lv_ldc2 (v := 10000) hx hb hown (hts _ tw_1723) dX12_broke_16 ?_
    refine t_callS (As := [.long x13, .long 1, .long 10000]) (rest := []) E hW (c_X12_in l G cI cJ cZ cD cR cT kp L f6 hW.2.2.2 _ x13 1 10000) wk_X12_in tw_1554 rfl ⟨Nat.le_of_ble_eq_true rfl, Nat.le_of_ble_eq_true rfl⟩ ⟨rfl, rfl⟩ hl.1 rfl (Nat.le_of_ble_eq_true rfl) dX12_broke_19 ⟨Nat.le_of_ble_eq_true rfl, Nat.le_of_ble_eq_true rfl⟩ (fun v16 f17 H locs q18 hW => ?_)
    obtain ⟨⟨x20, rfl, p21⟩, g19⟩ := q18
    have p21 : (x20.toInt = 1 ∧ 1 ≤ x13.toInt ∧ x13.toInt ≤ 10000) ∨ (x20.toInt = 0 ∧ (x13.toInt < 1 ∨ 10000 < x13.toInt)) := p21
    have hF := FM.tr hF g19 rfl
    refine q_if_eq (tgt := 52) hx hb dX12_broke_22 (by decide) rfl (fun c22 => ?_) (fun c22 => ?_)
    · have q23 : (x13.toInt < 1 ∨ 10000 < x13.toInt) := by omega
      clear p21
      refine lv_iconst (v := (-1)) hx hb dX12_broke_52 (by decide) ?_
      exact e_I E hW rfl ⟨⟨_, rfl, trivial⟩, hF⟩ dX12_broke_53
    · have q24 : 1 ≤ x13.toInt ∧ x13.toInt ≤ 10000 := by omega
      clear p21
      refine lv_iload_n hx hb dX12_broke_25 rfl (lv_at hl 3 rfl) ?_
      refine q_i2l hx hb dX12_broke_26 rfl (fun x25 h26 => ?_)
      have hb27 : -2147483648 ≤ x25.toInt ∧ x25.toInt ≤ 2147483647 := by have := i32_b u3; omega
      refine lv_lconst (v := 0) hx hb dX12_broke_27 (by decide) ?_
      refine lv_ldc2 (v := 2) hx hb hown (hts _ tw_1991) dX12_broke_28 ?_
      refine t_callS (As := [.long x25, .long 0, .long 2]) (rest := []) E hW (c_X12_in l G cI cJ cZ cD cR cT kp L f17 hW.2.2.2 _ x25 0 2) wk_X12_in tw_1554 rfl ⟨Nat.le_of_ble_eq_true rfl, Nat.le_of_ble_eq_true rfl⟩ ⟨rfl, rfl⟩ hl.1 rfl (Nat.le_of_ble_eq_true rfl) dX12_broke_31 ⟨Nat.le_of_ble_eq_true rfl, Nat.le_of_ble_eq_true rfl⟩ (fun v28 f29 H locs q30 hW => ?_)
      obtain ⟨⟨x32, rfl, p33⟩, g31⟩ := q30
      have p33 : (x32.toInt = 1 ∧ 0 ≤ x25.toInt ∧ x25.toInt ≤ 2) ∨ (x32.toInt = 0 ∧ (x25.toInt < 0 ∨ 2 < x25.toInt)) := p33
      have hF := FM.tr hF g31 rfl
      refine q_if_eq (tgt := 52) hx hb dX12_broke_34 (by decide) rfl (fun c34 => ?_) (fun c34 => ?_)
      · have q35 : (x25.toInt < 0 ∨ 2 < x25.toInt) := by omega
        clear p33
        refine lv_iconst (v := (-1)) hx hb dX12_broke_52 (by decide) ?_
        exact e_I E hW rfl ⟨⟨_, rfl, trivial⟩, hF⟩ dX12_broke_53
      · have q36 : 0 ≤ x25.toInt ∧ x25.toInt ≤ 2 := by omega
        clear p33
        refine lv_aload_n hx hb dX12_broke_37 rfl (lv_at hl 0 rfl) ?_
        refine fg_RX12_8 E hW rh0 dX12_broke_38 (fun a37 m38 r39 => ?_)
        obtain rfl : pR = a37 := (((fm_R g31 rh0 rfl).trans ((fm_R g19 rh0 rfl).trans ((fm_R g8 rh0 rfl).trans ((fm_R g4 rh0 rfl).trans mR))))).symm.trans m38
        refine lv_iload_n hx hb dX12_broke_41 rfl (lv_at hl 1 rfl) ?_
        refine t_callS (As := [.int u1]) (rest := [.ref pR]) E hW (c_X12_personAt l G cI cJ cZ cD cR cT kp L f29 hW.2.2.2 _ u1 (by omega)) wk_X12_personAt tw_1572 rfl ⟨Nat.le_of_ble_eq_true rfl, Nat.le_of_ble_eq_true rfl⟩ ⟨rfl, rfl⟩ hl.1 rfl (Nat.le_of_ble_eq_true rfl) dX12_broke_42 ⟨Nat.le_of_ble_eq_true rfl, Nat.le_of_ble_eq_true rfl⟩ (fun v40 f41 H locs q42 hW => ?_)
        obtain ⟨⟨x44, rfl, p45⟩, g43⟩ := q42
        have hF := FM.tr hF g43 rfl
        refine lv_bipush (v := 6) hx hb dX12_broke_45 (by decide) ?_
        refine q_iadd (Y := 6) hx hb dX12_broke_47 rfl rfl (by omega) (fun x46 h47 => ?_)
        refine gl_822 E hW rR ⟨by omega, by omega⟩ dX12_broke_48 (fun y48 m49 b50 => ?_)
        refine q_if_ne (tgt := 54) hx hb dX12_broke_49 (by decide) rfl (fun c51 => ?_) (fun c51 => ?_)
        · refine lv_iconst (v := 0) hx hb dX12_broke_54 (by decide) ?_
          refine lv_istore (lv' := [(5, .int 0), (0, .ref h0), (1, .int u1), (2, .int u2), (3, .int u3), (4, .int u4)]) hx hb dX12_broke_55 hl (by decide) rfl (fun ls hl => ?_)
          refine lv_iconst (v := (-1)) hx hb dX12_broke_57 (by decide) ?_
          refine lv_istore (lv' := [(6, .int (-1)), (5, .int 0), (0, .ref h0), (1, .int u1), (2, .int u2), (3, .int u3), (4, .int u4)]) hx hb dX12_broke_58 hl (by decide) rfl (fun ls hl => ?_)
          refine lv_iconst (v := (-1)) hx hb dX12_broke_60 (by decide) ?_
          refine lv_istore (lv' := [(7, .int (-1)), (6, .int (-1)), (5, .int 0), (0, .ref h0), (1, .int u1), (2, .int u2), (3, .int u3), (4, .int u4)]) hx hb dX12_broke_61 hl (by decide) rfl (fun ls hl => ?_)
          refine lv_iconst (v := 0) hx hb dX12_broke_63 (by decide) ?_
          refine lv_istore (lv' := [(8, .int 0), (7, .int (-1)), (6, .int (-1)), (5, .int 0), (0, .ref h0), (1, .int u1), (2, .int u2), (3, .int u3), (4, .int u4)]) hx hb dX12_broke_64 hl (by decide) rfl (fun ls hl => ?_)
          have L7144 : ∀ (n : Nat), ∀ (f7134 : Nat → va_E) (y7137 : Int32) (y7139 : Int32) (y7141 : Int32) (y7143 : Int32) (m7135 : oI (f7134 h0) 0 = 0) (m7136 : oR (f7134 h0) 2 = pR) (b7138 : (0 : Int) ≤ y7137.toInt ∧ y7137.toInt ≤ 40) (b7140 : (-1 : Int) ≤ y7139.toInt ∧ y7139.toInt ≤ 39) (b7142 : (-1 : Int) ≤ y7141.toInt ∧ y7141.toInt ≤ 39) (hm : (41 : Int) - y7137.toInt ≤ n) (H : Heap) (locs : List Loc) (ls : Array Slot), WS G cI cJ cZ cD cR cT A kp L f7134 s H locs → FM kp L ms_X12_broke f0 f7134 → lv_has ls 9 [(8, .int y7137), (7, .int y7139), (6, .int y7141), (5, .int y7143), (0, .ref h0), (1, .int u1), (2, .int u2), (3, .int u3), (4, .int u4)] → W p l e ({ frames := 3, cells := 0, slots := 0, locals := 86 }) s m ([.ref h0, .int u1, .int u2, .int u3, .int u4] : List Value).toArray below meth c H locs 0 0 (MQ below (QT (po_X12_broke kp L f0 h0 u1 u2 u3 u4) G cI cJ cZ cD cR cT A kp L) ([.ref h0, .int u1, .int u2, .int u3, .int u4] : List Value).toArray s 0 0 A) (F0 m 66 ls []) := by
            intro n
            induction n with
            | zero =>
              intro f7134 y7137 y7139 y7141 y7143 m7135 m7136 b7138 b7140 b7142 hm H locs ls hW hF hl
              have hz := i32_b y7137
              exfalso; omega
            | succ n ih =>
              intro f7134 y7137 y7139 y7141 y7143 m7135 m7136 b7138 b7140 b7142 hm H locs ls hW hF hl
              clear c11 c22 c34 c51
              have ih66 := ih
              refine lv_iload hx hb dX12_broke_66 (lv_at hl 0 rfl) ?_
              refine lv_aload_n hx hb dX12_broke_68 rfl (lv_at hl 4 rfl) ?_
              refine fg_RX12_8 E hW rh0 dX12_broke_69 (fun a7145 m7146 r7147 => ?_)
              obtain rfl : pR = a7145 := (m7136).symm.trans m7146
              refine lv_iconst (v := 0) hx hb dX12_broke_72 (by decide) ?_
              refine gl_822 E hW rR (by decide) dX12_broke_73 (fun y7148 m7149 b7150 => ?_)
              have b7151 := rr_0 (show RowInv _ from b7150) m7149 (by decide)
              refine q_icmp_ge (tgt := 157) hx hb dX12_broke_74 (by decide) rfl rfl (fun c7241 => ?_) (fun c7241 => ?_)
              · refine lv_iload_n hx hb dX12_broke_157 rfl (lv_at hl 7 rfl) ?_
                have J7245 : ∀ (y7244 : Int32) (H : Heap) (locs : List Loc) (ls : Array Slot), WS G cI cJ cZ cD cR cT A kp L f7134 s H locs → FM kp L ms_X12_broke f0 f7134 → lv_has ls 9 [(8, .int y7137), (7, .int y7139), (6, .int y7141), (5, .int y7143), (0, .ref h0), (1, .int u1), (2, .int u2), (3, .int u3), (4, .int u4)] → W p l e ({ frames := 3, cells := 0, slots := 0, locals := 86 }) s m ([.ref h0, .int u1, .int u2, .int u3, .int u4] : List Value).toArray below meth c H locs 0 0 (MQ below (QT (po_X12_broke kp L f0 h0 u1 u2 u3 u4) G cI cJ cZ cD cR cT A kp L) ([.ref h0, .int u1, .int u2, .int u3, .int u4] : List Value).toArray s 0 0 A) (F0 m 188 ls [.int y7244]) := by
                  intro y7244 H locs ls hW hF hl
                  exact e_I E hW rfl ⟨⟨_, rfl, trivial⟩, hF⟩ dX12_broke_188
                refine q_if_ne (tgt := 176) hx hb dX12_broke_158 (by decide) rfl (fun c7246 => ?_) (fun c7246 => ?_)
                · refine lv_iload_n hx hb dX12_broke_176 rfl (lv_at hl 7 rfl) ?_
                  refine lv_iconst (v := 1) hx hb dX12_broke_177 (by decide) ?_
                  refine q_icmp_ne (Y := 1) (tgt := 186) hx hb dX12_broke_178 (by decide) rfl rfl (fun c7247 => ?_) (fun c7247 => ?_)
                  · refine lv_iload hx hb dX12_broke_186 (lv_at hl 1 rfl) ?_
                    exact J7245 y7139  _ _ _ hW hF (lv_sub hl [0, 1, 2, 3, 4, 5, 6, 7, 8] rfl)
                  · refine lv_iload hx hb dX12_broke_181 (lv_at hl 3 rfl) ?_
                    refine lv_goto (tgt := 188) hx hb dX12_broke_183 (by decide) ?_
                    exact J7245 y7143  _ _ _ hW hF (lv_sub hl [0, 1, 2, 3, 4, 5, 6, 7, 8] rfl)
                · refine lv_iload hx hb dX12_broke_161 (lv_at hl 3 rfl) ?_
                  refine lv_iconst (v := 1) hx hb dX12_broke_163 (by decide) ?_
                  refine q_icmp_ne (Y := 1) (tgt := 172) hx hb dX12_broke_164 (by decide) rfl rfl (fun c7248 => ?_) (fun c7248 => ?_)
                  · refine lv_iconst (v := (-1)) hx hb dX12_broke_172 (by decide) ?_
                    refine lv_goto (tgt := 188) hx hb dX12_broke_173 (by decide) ?_
                    exact J7245 (-1)  _ _ _ hW hF (lv_sub hl [0, 1, 2, 3, 4, 5, 6, 7, 8] rfl)
                  · refine lv_iload hx hb dX12_broke_167 (lv_at hl 2 rfl) ?_
                    refine lv_goto (tgt := 188) hx hb dX12_broke_169 (by decide) ?_
                    exact J7245 y7141  _ _ _ hW hF (lv_sub hl [0, 1, 2, 3, 4, 5, 6, 7, 8] rfl)
              · refine lv_iload hx hb dX12_broke_77 (lv_at hl 0 rfl) ?_
                refine lv_iload_n hx hb dX12_broke_79 rfl (lv_at hl 5 rfl) ?_
                have J7296 : ∀ (f7287 : Nat → va_E) (y7291 : Int32) (y7293 : Int32) (y7295 : Int32) (m7288 : oI (f7287 h0) 0 = 0) (m7289 : oR (f7287 h0) 2 = pR) (m7290 : aI (f7287 pR) (0 : Int32).toNatClampNeg = y7148) (b7292 : (-1 : Int) ≤ y7291.toInt ∧ y7291.toInt ≤ 39) (b7294 : (-1 : Int) ≤ y7293.toInt ∧ y7293.toInt ≤ 39) (H : Heap) (locs : List Loc) (ls : Array Slot), WS G cI cJ cZ cD cR cT A kp L f7287 s H locs → FM kp L ms_X12_broke f0 f7287 → lv_has ls 9 [(8, .int y7137), (7, .int y7291), (6, .int y7293), (5, .int y7295), (0, .ref h0), (1, .int u1), (2, .int u2), (3, .int u3), (4, .int u4)] → W p l e ({ frames := 3, cells := 0, slots := 0, locals := 86 }) s m ([.ref h0, .int u1, .int u2, .int u3, .int u4] : List Value).toArray below meth c H locs 0 0 (MQ below (QT (po_X12_broke kp L f0 h0 u1 u2 u3 u4) G cI cJ cZ cD cR cT A kp L) ([.ref h0, .int u1, .int u2, .int u3, .int u4] : List Value).toArray s 0 0 A) (F0 m 151 ls []) := by
                  intro f7287 y7291 y7293 y7295 m7288 m7289 m7290 b7292 b7294 H locs ls hW hF hl
                  clear b7140 b7142
                  refine q_iinc hx hb dX12_broke_151 hl (k := 0) rfl rfl rfl (by omega) (by decide) (fun i7297 ls h7298 hl => ?_)
                  have hl : lv_has ls 9 [(8, .int i7297), (7, .int y7291), (6, .int y7293), (5, .int y7295), (0, .ref h0), (1, .int u1), (2, .int u2), (3, .int u3), (4, .int u4)] := hl
                  refine lv_goto (tgt := 66) hx hb dX12_broke_154 (by decide) ?_
                  exact ih66 f7287 i7297 y7291 y7293 y7295 m7288 m7289 (by omega) (by omega) (by omega) (by omega) _ _ _ hW hF (lv_sub hl [0, 1, 2, 3, 4, 5, 6, 7, 8] rfl)
                refine q_icmp_eq (tgt := 151) hx hb dX12_broke_80 (by decide) rfl rfl (fun c7299 => ?_) (fun c7299 => ?_)
                · exact J7296 f7134 y7139 y7141 y7143 m7135 m7146 m7149 (by omega) (by omega) _ _ _ hW hF (lv_sub hl [0, 1, 2, 3, 4, 5, 6, 7, 8] rfl)
                · refine lv_aload_n hx hb dX12_broke_83 rfl (lv_at hl 4 rfl) ?_
                  refine lv_iload hx hb dX12_broke_84 (lv_at hl 0 rfl) ?_
                  refine t_callV (As := [.int y7137]) (rest := []) E hW (c_X12_isAbout l G cI cJ cZ cD cR cT kp L f7134 hW.2.2.2 _ h0 y7137 rh0 (by omega)) rh0 (by decide) rfl wk_X12_isAbout tw_1970 rfl ⟨Nat.le_of_ble_eq_true rfl, Nat.le_of_ble_eq_true rfl⟩ ⟨rfl, rfl⟩ hl.1 rfl (Nat.le_of_ble_eq_true rfl) dX12_broke_86 ⟨Nat.le_of_ble_eq_true rfl, Nat.le_of_ble_eq_true rfl⟩ (fun v7300 f7301 H locs q7302 hW => ?_)
                  obtain ⟨⟨x7304, rfl, p7305⟩, g7303⟩ := q7302
                  have hF := FM.tr hF g7303 rfl
                  refine q_if_eq (tgt := 151) hx hb dX12_broke_89 (by decide) rfl (fun c7306 => ?_) (fun c7306 => ?_)
                  · exact J7296 f7301 y7139 y7141 y7143 ((fm_I g7303 rh0 rfl).trans m7135) ((fm_R g7303 rh0 rfl).trans m7146) ((congrArg (fun z => aI z (0 : Int32).toNatClampNeg) (fm_A g7303 rR (by decide) rfl)).trans m7149) (by omega) (by omega) _ _ _ hW hF (lv_sub hl [0, 1, 2, 3, 4, 5, 6, 7, 8] rfl)
                  · refine lv_aload_n hx hb dX12_broke_92 rfl (lv_at hl 4 rfl) ?_
                    refine lv_iload hx hb dX12_broke_93 (lv_at hl 0 rfl) ?_
                    refine lv_iload_n hx hb dX12_broke_95 rfl (lv_at hl 5 rfl) ?_
                    refine t_callV (As := [.int y7137, .int u1]) (rest := []) E hW (c_X12_keepsBan l G cI cJ cZ cD cR cT kp L f7301 hW.2.2.2 _ h0 y7137 u1 rh0 (by omega) (by omega)) rh0 (by decide) rfl wk_X12_keepsBan tw_1974 rfl ⟨Nat.le_of_ble_eq_true rfl, Nat.le_of_ble_eq_true rfl⟩ ⟨rfl, rfl⟩ hl.1 rfl (Nat.le_of_ble_eq_true rfl) dX12_broke_96 ⟨Nat.le_of_ble_eq_true rfl, Nat.le_of_ble_eq_true rfl⟩ (fun v7307 f7308 H locs q7309 hW => ?_)
                    obtain ⟨⟨x7311, rfl, p7312⟩, g7310⟩ := q7309
                    have m7313 : aI (f7308 pR) (0 : Int32).toNatClampNeg = y7148 := ((congrArg (fun z => aI z (0 : Int32).toNatClampNeg) (fm_A g7310 rR (by decide) rfl)).trans ((congrArg (fun z => aI z (0 : Int32).toNatClampNeg) (fm_A g7303 rR (by decide) rfl)).trans m7149))
                    have hF := FM.tr hF g7310 rfl
                    refine q_if_ne (tgt := 151) hx hb dX12_broke_99 (by decide) rfl (fun c7314 => ?_) (fun c7314 => ?_)
                    · exact J7296 f7308 y7139 y7141 y7143 ((fm_I g7310 rh0 rfl).trans ((fm_I g7303 rh0 rfl).trans m7135)) ((fm_R g7310 rh0 rfl).trans ((fm_R g7303 rh0 rfl).trans m7146)) m7313 (by omega) (by omega) _ _ _ hW hF (lv_sub hl [0, 1, 2, 3, 4, 5, 6, 7, 8] rfl)
                    · refine lv_aload_n hx hb dX12_broke_102 rfl (lv_at hl 4 rfl) ?_
                      refine fg_RX12_8 E hW rh0 dX12_broke_103 (fun a7315 m7316 r7317 => ?_)
                      obtain rfl : pR = a7315 := (((fm_R g7310 rh0 rfl).trans ((fm_R g7303 rh0 rfl).trans m7146))).symm.trans m7316
                      refine lv_iload hx hb dX12_broke_106 (lv_at hl 0 rfl) ?_
                      refine t_callS (As := [.int y7137]) (rest := [.ref pR]) E hW (c_X12_personAt l G cI cJ cZ cD cR cT kp L f7308 hW.2.2.2 _ y7137 (by omega)) wk_X12_personAt tw_1572 rfl ⟨Nat.le_of_ble_eq_true rfl, Nat.le_of_ble_eq_true rfl⟩ ⟨rfl, rfl⟩ hl.1 rfl (Nat.le_of_ble_eq_true rfl) dX12_broke_108 ⟨Nat.le_of_ble_eq_true rfl, Nat.le_of_ble_eq_true rfl⟩ (fun v7318 f7319 H locs q7320 hW => ?_)
                      obtain ⟨⟨x7322, rfl, p7323⟩, g7321⟩ := q7320
                      have hF := FM.tr hF g7321 rfl
                      refine lv_iconst (v := 1) hx hb dX12_broke_111 (by decide) ?_
                      refine q_iadd (Y := 1) hx hb dX12_broke_112 rfl rfl (by omega) (fun x7324 h7325 => ?_)
                      refine gl_822 E hW rR ⟨by omega, by omega⟩ dX12_broke_113 (fun y7326 m7327 b7328 => ?_)
                      refine lv_iload_n hx hb dX12_broke_114 rfl (lv_at hl 6 rfl) ?_
                      refine q_icmp_lt (tgt := 151) hx hb dX12_broke_115 (by decide) rfl rfl (fun c7329 => ?_) (fun c7329 => ?_)
                      · exact J7296 f7319 y7139 y7141 y7143 ((fm_I g7321 rh0 rfl).trans ((fm_I g7310 rh0 rfl).trans ((fm_I g7303 rh0 rfl).trans m7135))) ((fm_R g7321 rh0 rfl).trans m7316) ((congrArg (fun z => aI z (0 : Int32).toNatClampNeg) (fm_A g7321 rR (by decide) rfl)).trans m7313) (by omega) (by omega) _ _ _ hW hF (lv_sub hl [0, 1, 2, 3, 4, 5, 6, 7, 8] rfl)
                      · refine lv_iload hx hb dX12_broke_118 (lv_at hl 3 rfl) ?_
                        have J7332 : ∀ (y7330 : Int32) (b7331 : (-1 : Int) ≤ y7330.toInt ∧ y7330.toInt ≤ 39) (H : Heap) (locs : List Loc) (ls : Array Slot), WS G cI cJ cZ cD cR cT A kp L f7319 s H locs → FM kp L ms_X12_broke f0 f7319 → lv_has ls 9 [(8, .int y7137), (7, .int y7139), (6, .int y7141), (5, .int y7143), (0, .ref h0), (1, .int u1), (2, .int u2), (3, .int u3), (4, .int u4)] → W p l e ({ frames := 3, cells := 0, slots := 0, locals := 86 }) s m ([.ref h0, .int u1, .int u2, .int u3, .int u4] : List Value).toArray below meth c H locs 0 0 (MQ below (QT (po_X12_broke kp L f0 h0 u1 u2 u3 u4) G cI cJ cZ cD cR cT A kp L) ([.ref h0, .int u1, .int u2, .int u3, .int u4] : List Value).toArray s 0 0 A) (F0 m 130 ls [.int y7330]) := by
                          intro y7330 b7331 H locs ls hW hF hl
                          clear p7305 c7306 p7312 c7314
                          refine lv_istore (lv' := [(6, .int y7330), (8, .int y7137), (7, .int y7139), (5, .int y7143), (0, .ref h0), (1, .int u1), (2, .int u2), (3, .int u3), (4, .int u4)]) hx hb dX12_broke_130 hl (by decide) rfl (fun ls hl => ?_)
                          refine lv_iload hx hb dX12_broke_132 (lv_at hl 3 rfl) ?_
                          refine lv_iload hx hb dX12_broke_134 (lv_at hl 8 rfl) ?_
                          have J7335 : ∀ (y7333 : Int32) (b7334 : (-1 : Int) ≤ y7333.toInt ∧ y7333.toInt ≤ 39) (H : Heap) (locs : List Loc) (ls : Array Slot), WS G cI cJ cZ cD cR cT A kp L f7319 s H locs → FM kp L ms_X12_broke f0 f7319 → lv_has ls 9 [(6, .int y7330), (8, .int y7137), (7, .int y7139), (5, .int y7143), (0, .ref h0), (1, .int u1), (2, .int u2), (3, .int u3), (4, .int u4)] → W p l e ({ frames := 3, cells := 0, slots := 0, locals := 86 }) s m ([.ref h0, .int u1, .int u2, .int u3, .int u4] : List Value).toArray below meth c H locs 0 0 (MQ below (QT (po_X12_broke kp L f0 h0 u1 u2 u3 u4) G cI cJ cZ cD cR cT A kp L) ([.ref h0, .int u1, .int u2, .int u3, .int u4] : List Value).toArray s 0 0 A) (F0 m 146 ls [.int y7333]) := by
                            intro y7333 b7334 H locs ls hW hF hl
                            clear b7142
                            refine lv_istore (lv' := [(7, .int y7333), (6, .int y7330), (8, .int y7137), (5, .int y7143), (0, .ref h0), (1, .int u1), (2, .int u2), (3, .int u3), (4, .int u4)]) hx hb dX12_broke_146 hl (by decide) rfl (fun ls hl => ?_)
                            refine u_iinc hx hb dX12_broke_148 hl (k := 3) rfl (by decide) (fun i7336 ls hl => ?_)
                            have hl : lv_has ls 9 [(5, .int i7336), (7, .int y7333), (6, .int y7330), (8, .int y7137), (0, .ref h0), (1, .int u1), (2, .int u2), (3, .int u3), (4, .int u4)] := hl
                            exact J7296 f7319 y7333 y7330 i7336 ((fm_I g7321 rh0 rfl).trans ((fm_I g7310 rh0 rfl).trans ((fm_I g7303 rh0 rfl).trans m7135))) ((fm_R g7321 rh0 rfl).trans m7316) ((congrArg (fun z => aI z (0 : Int32).toNatClampNeg) (fm_A g7321 rR (by decide) rfl)).trans m7313) (by omega) (by omega) _ _ _ hW hF (lv_sub hl [3, 1, 2, 0, 4, 5, 6, 7, 8] rfl)
                          refine q_icmp_ne (tgt := 144) hx hb dX12_broke_136 (by decide) rfl rfl (fun c7337 => ?_) (fun c7337 => ?_)
                          · refine lv_iload hx hb dX12_broke_144 (lv_at hl 2 rfl) ?_
                            exact J7335 y7139 (by omega) _ _ _ hW hF (lv_sub hl [0, 1, 2, 3, 4, 5, 6, 7, 8] rfl)
                          · refine lv_iload hx hb dX12_broke_139 (lv_at hl 1 rfl) ?_
                            refine lv_goto (tgt := 146) hx hb dX12_broke_141 (by decide) ?_
                            exact J7335 y7137 (by omega) _ _ _ hW hF (lv_sub hl [0, 1, 2, 3, 4, 5, 6, 7, 8] rfl)
                        refine q_if_ne (tgt := 128) hx hb dX12_broke_120 (by decide) rfl (fun c7338 => ?_) (fun c7338 => ?_)
                        · refine lv_iload hx hb dX12_broke_128 (lv_at hl 2 rfl) ?_
                          exact J7332 y7141 (by omega) _ _ _ hW hF (lv_sub hl [0, 1, 2, 3, 4, 5, 6, 7, 8] rfl)
                        · refine lv_iload hx hb dX12_broke_123 (lv_at hl 0 rfl) ?_
                          refine lv_goto (tgt := 130) hx hb dX12_broke_125 (by decide) ?_
                          exact J7332 y7137 (by omega) _ _ _ hW hF (lv_sub hl [0, 1, 2, 3, 4, 5, 6, 7, 8] rfl)
          have hk7339 : (0 : Int32).toInt = 0 := rfl
          have hk7340 : ((-1) : Int32).toInt = -1 := rfl
          have hk7341 : ((-1) : Int32).toInt = -1 := rfl
          have hk7342 : (0 : Int32).toInt = 0 := rfl
          exact L7144 41 f41 0 (-1) (-1) 0 ((fm_I g43 rh0 rfl).trans ((fm_I g31 rh0 rfl).trans ((fm_I g19 rh0 rfl).trans ((fm_I g8 rh0 rfl).trans e2)))) ((fm_R g43 rh0 rfl).trans m38) (by decide) (by decide) (by decide) (by omega) _ _ _ hW hF (lv_sub hl [0, 1, 2, 3, 4, 5, 6, 7, 8] rfl)
        · refine lv_iconst (v := (-1)) hx hb dX12_broke_52 (by decide) ?_
          exact e_I E hW rfl ⟨⟨_, rfl, trivial⟩, hF⟩ dX12_broke_53
def ms_X12_last : List (Nat × Nat) := [(12, 0)]
def po_X12_last (kp : Nat → Nat) (L : List Nat) (f0 : Nat → va_E) (h0 : Nat) (u1 : Int32) (u2 : Int32) (u3 : Int32) : Option Value → (Nat → va_E) → Prop := fun v f => (∃ r : Int32, v = some (.int r) ∧ ((-1 : Int) ≤ r.toInt ∧ r.toInt ≤ 400)) ∧ FM kp L ms_X12_last f0 f
set_option maxHeartbeats 4000000 in
set_option maxRecDepth 100000 in
theorem c_X12_last (l : Launch) (G : va_G) (cI cJ cZ cD cR cT : ClassId) (kp : Nat → Nat) (L : List Nat) (f0 : Nat → va_E) (hTH : TH cI cJ cZ cD cR cT kp L f0) (sz : Nat) (h0 : Nat) (u1 : Int32) (u2 : Int32) (u3 : Int32) (rh0 : RK kp L h0 12) : Met l yX12_last (Cond.code yX12_last cX12_last 7 (some .int) :: wTab) ({ frames := 2, cells := 0, slots := 0, locals := 65 }) (va_Pc [.ref h0, .int u1, .int u2, .int u3] (PreW G (tys6 cI cJ cZ cD cR cT) (va_pl L f0) sz)) (QT (po_X12_last kp L f0 h0 u1 u2 u3) G cI cJ cZ cD cR cT (va_A (va_pl L f0) sz) kp L) 0 0 (va_A (va_pl L f0) sz) := by
  refine metT (by decide) (Nat.le_of_ble_eq_true rfl) hTH ?_
  intro p e s m below meth c A ls E hW hl
  obtain ⟨hx, hb, -, hml, hown, hts, -, -, -⟩ := id E
  have hF : FM kp L ms_X12_last f0 f0 := FM.rf
  have hl : lv_has ls 7 [(0, .ref h0), (1, .int u1), (2, .int u2), (3, .int u3)] := hl
  obtain ⟨pR, mR⟩ : ∃ x : Nat, oR (f0 h0) 2 = x := ⟨_, rfl⟩
  have rR : RK kp L pR 822 := by rw [← mR]; exact th_ref hTH rh0 (by decide) (by decide) rfl
  refine lv_aload_n hx hb dX12_last_0 rfl (lv_at hl 0 rfl) ?_
  refine lv_iconst (v := 0) hx hb dX12_last_1 (by decide) ?_
  refine fp_RX12_82 E hW rh0 dX12_last_2 (fun f1 H locs e2 n3 g4 hW => ?_)
  have hF := FM.tr hF g4 rfl
  refine lv_iload_n hx hb dX12_last_5 rfl (lv_at hl 1 rfl) ?_
  refine q_i2l hx hb dX12_last_6 rfl (fun x5 h6 => ?_)
  have hb7 : -2147483648 ≤ x5.toInt ∧ x5.toInt ≤ 2147483647 := by have := i32_b u1; omega
  refine lv_lconst (v := 1) hx hb dX12_last_7 (by decide) ?_
  refine lv_ldc2 (v := 10000) hx hb hown (hts _ tw_1723) dX12_last_8 ?_
  refine t_callS (As := [.long x5, .long 1, .long 10000]) (rest := []) E hW (c_X12_in l G cI cJ cZ cD cR cT kp L f1 hW.2.2.2 _ x5 1 10000) wk_X12_in tw_1554 rfl ⟨Nat.le_of_ble_eq_true rfl, Nat.le_of_ble_eq_true rfl⟩ ⟨rfl, rfl⟩ hl.1 rfl (Nat.le_of_ble_eq_true rfl) dX12_last_11 ⟨Nat.le_of_ble_eq_true rfl, Nat.le_of_ble_eq_true rfl⟩ (fun v8 f9 H locs q10 hW => ?_)
  obtain ⟨⟨x12, rfl, p13⟩, g11⟩ := q10
  have p13 : (x12.toInt = 1 ∧ 1 ≤ x5.toInt ∧ x5.toInt ≤ 10000) ∨ (x12.toInt = 0 ∧ (x5.toInt < 1 ∨ 10000 < x5.toInt)) := p13
  have hF := FM.tr hF g11 rfl
  refine q_if_eq (tgt := 41) hx hb dX12_last_14 (by decide) rfl (fun c14 => ?_) (fun c14 => ?_)
  · have q15 : (x5.toInt < 1 ∨ 10000 < x5.toInt) := by omega
    clear p13
    refine lv_iconst (v := (-1)) hx hb dX12_last_41 (by decide) ?_
    exact e_I E hW rfl ⟨⟨_, rfl, (by have hk : ((-1) : Int32).toInt = -1 := rfl; first | decide | omega)⟩, hF⟩ dX12_last_42
  · have q16 : 1 ≤ x5.toInt ∧ x5.toInt ≤ 10000 := by omega
    clear p13
    refine lv_iload_n hx hb dX12_last_17 rfl (lv_at hl 2 rfl) ?_
    refine q_i2l hx hb dX12_last_18 rfl (fun x17 h18 => ?_)
    have hb19 : -2147483648 ≤ x17.toInt ∧ x17.toInt ≤ 2147483647 := by have := i32_b u2; omega
    refine lv_lconst (v := 0) hx hb dX12_last_19 (by decide) ?_
    refine lv_ldc2 (v := 1000) hx hb hown (hts _ tw_1618) dX12_last_20 ?_
    refine t_callS (As := [.long x17, .long 0, .long 1000]) (rest := []) E hW (c_X12_in l G cI cJ cZ cD cR cT kp L f9 hW.2.2.2 _ x17 0 1000) wk_X12_in tw_1554 rfl ⟨Nat.le_of_ble_eq_true rfl, Nat.le_of_ble_eq_true rfl⟩ ⟨rfl, rfl⟩ hl.1 rfl (Nat.le_of_ble_eq_true rfl) dX12_last_23 ⟨Nat.le_of_ble_eq_true rfl, Nat.le_of_ble_eq_true rfl⟩ (fun v20 f21 H locs q22 hW => ?_)
    obtain ⟨⟨x24, rfl, p25⟩, g23⟩ := q22
    have p25 : (x24.toInt = 1 ∧ 0 ≤ x17.toInt ∧ x17.toInt ≤ 1000) ∨ (x24.toInt = 0 ∧ (x17.toInt < 0 ∨ 1000 < x17.toInt)) := p25
    have hF := FM.tr hF g23 rfl
    refine q_if_eq (tgt := 41) hx hb dX12_last_26 (by decide) rfl (fun c26 => ?_) (fun c26 => ?_)
    · have q27 : (x17.toInt < 0 ∨ 1000 < x17.toInt) := by omega
      clear p25
      refine lv_iconst (v := (-1)) hx hb dX12_last_41 (by decide) ?_
      exact e_I E hW rfl ⟨⟨_, rfl, (by have hk : ((-1) : Int32).toInt = -1 := rfl; first | decide | omega)⟩, hF⟩ dX12_last_42
    · have q28 : 0 ≤ x17.toInt ∧ x17.toInt ≤ 1000 := by omega
      clear p25
      refine lv_iload_n hx hb dX12_last_29 rfl (lv_at hl 3 rfl) ?_
      refine q_i2l hx hb dX12_last_30 rfl (fun x29 h30 => ?_)
      have hb31 : -2147483648 ≤ x29.toInt ∧ x29.toInt ≤ 2147483647 := by have := i32_b u3; omega
      refine lv_lconst (v := 0) hx hb dX12_last_31 (by decide) ?_
      refine lv_ldc2 (v := 1000) hx hb hown (hts _ tw_1618) dX12_last_32 ?_
      refine t_callS (As := [.long x29, .long 0, .long 1000]) (rest := []) E hW (c_X12_in l G cI cJ cZ cD cR cT kp L f21 hW.2.2.2 _ x29 0 1000) wk_X12_in tw_1554 rfl ⟨Nat.le_of_ble_eq_true rfl, Nat.le_of_ble_eq_true rfl⟩ ⟨rfl, rfl⟩ hl.1 rfl (Nat.le_of_ble_eq_true rfl) dX12_last_35 ⟨Nat.le_of_ble_eq_true rfl, Nat.le_of_ble_eq_true rfl⟩ (fun v32 f33 H locs q34 hW => ?_)
      obtain ⟨⟨x36, rfl, p37⟩, g35⟩ := q34
      have p37 : (x36.toInt = 1 ∧ 0 ≤ x29.toInt ∧ x29.toInt ≤ 1000) ∨ (x36.toInt = 0 ∧ (x29.toInt < 0 ∨ 1000 < x29.toInt)) := p37
      have hF := FM.tr hF g35 rfl
      refine q_if_ne (tgt := 43) hx hb dX12_last_38 (by decide) rfl (fun c38 => ?_) (fun c38 => ?_)
      · have q39 : 0 ≤ x29.toInt ∧ x29.toInt ≤ 1000 := by omega
        clear p37
        refine lv_aload_n hx hb dX12_last_43 rfl (lv_at hl 0 rfl) ?_
        refine fg_RX12_8 E hW rh0 dX12_last_44 (fun a40 m41 r42 => ?_)
        obtain rfl : pR = a40 := (((fm_R g35 rh0 rfl).trans ((fm_R g23 rh0 rfl).trans ((fm_R g11 rh0 rfl).trans ((fm_R g4 rh0 rfl).trans mR))))).symm.trans m41
        refine lv_bipush (v := 9) hx hb dX12_last_47 (by decide) ?_
        refine gl_822 E hW rR (by decide) dX12_last_49 (fun y43 m44 b45 => ?_)
        refine q_i2l hx hb dX12_last_50 rfl (fun x46 h47 => ?_)
        have hb48 : -2147483648 ≤ x46.toInt ∧ x46.toInt ≤ 2147483647 := by have := i32_b y43; omega
        refine lv_lstore (lv' := [(4, .long x46), (0, .ref h0), (1, .int u1), (2, .int u2), (3, .int u3)]) hx hb dX12_last_51 hl (by decide) rfl (fun ls hl => ?_)
        refine lv_iconst (v := 0) hx hb dX12_last_53 (by decide) ?_
        refine lv_istore (lv' := [(6, .int 0), (4, .long x46), (0, .ref h0), (1, .int u1), (2, .int u2), (3, .int u3)]) hx hb dX12_last_54 hl (by decide) rfl (fun ls hl => ?_)
        have L1205 : ∀ (n : Nat), ∀ (y1202 : Int32) (y1204 : Int64) (b1203 : (0 : Int) ≤ y1202.toInt ∧ y1202.toInt ≤ 400) (hm : (401 : Int) - y1202.toInt ≤ n) (H : Heap) (locs : List Loc) (ls : Array Slot), WS G cI cJ cZ cD cR cT A kp L f33 s H locs → FM kp L ms_X12_last f0 f33 → lv_has ls 7 [(6, .int y1202), (4, .long y1204), (0, .ref h0), (1, .int u1), (2, .int u2), (3, .int u3)] → W p l e ({ frames := 2, cells := 0, slots := 0, locals := 65 }) s m ([.ref h0, .int u1, .int u2, .int u3] : List Value).toArray below meth c H locs 0 0 (MQ below (QT (po_X12_last kp L f0 h0 u1 u2 u3) G cI cJ cZ cD cR cT A kp L) ([.ref h0, .int u1, .int u2, .int u3] : List Value).toArray s 0 0 A) (F0 m 56 ls []) := by
          intro n
          induction n with
          | zero =>
            intro y1202 y1204 b1203 hm H locs ls hW hF hl
            have hz := i32_b y1202
            exfalso; omega
          | succ n ih =>
            intro y1202 y1204 b1203 hm H locs ls hW hF hl
            clear c14 c26 c38
            have ih56 := ih
            refine lv_iload hx hb dX12_last_56 (lv_at hl 0 rfl) ?_
            refine lv_sipush (v := 400) hx hb dX12_last_58 (by decide) ?_
            have J1226 : ∀ (H : Heap) (locs : List Loc) (ls : Array Slot), WS G cI cJ cZ cD cR cT A kp L f33 s H locs → FM kp L ms_X12_last f0 f33 → lv_has ls 7 [(6, .int y1202), (4, .long y1204), (0, .ref h0), (1, .int u1), (2, .int u2), (3, .int u3)] → W p l e ({ frames := 2, cells := 0, slots := 0, locals := 65 }) s m ([.ref h0, .int u1, .int u2, .int u3] : List Value).toArray below meth c H locs 0 0 (MQ below (QT (po_X12_last kp L f0 h0 u1 u2 u3) G cI cJ cZ cD cR cT A kp L) ([.ref h0, .int u1, .int u2, .int u3] : List Value).toArray s 0 0 A) (F0 m 101 ls []) := by
              intro  H locs ls hW hF hl
              refine lv_iload hx hb dX12_last_101 (lv_at hl 0 rfl) ?_
              exact e_I E hW rfl ⟨⟨_, rfl, (by first | omega | trivial)⟩, hF⟩ dX12_last_103
            refine q_icmp_ge (Y := 400) (tgt := 101) hx hb dX12_last_61 (by decide) rfl rfl (fun c1227 => ?_) (fun c1227 => ?_)
            · exact J1226   _ _ _ hW hF (lv_sub hl [0, 1, 2, 3, 4, 5] rfl)
            · refine lv_lload hx hb dX12_last_64 (lv_at hl 1 rfl) ?_
              refine lv_iload_n hx hb dX12_last_66 rfl (lv_at hl 3 rfl) ?_
              refine q_i2l hx hb dX12_last_67 rfl (fun x1228 h1229 => ?_)
              refine lv_iload_n hx hb dX12_last_68 rfl (lv_at hl 4 rfl) ?_
              refine lv_iload_n hx hb dX12_last_69 rfl (lv_at hl 5 rfl) ?_
              refine lv_iload hx hb dX12_last_70 (lv_at hl 0 rfl) ?_
              refine u_imul hx hb dX12_last_72 (fun x1230 => ?_)
              refine u_iadd hx hb dX12_last_73 (fun x1231 => ?_)
              refine q_i2l hx hb dX12_last_74 rfl (fun x1232 h1233 => ?_)
              have hb1234 : -2147483648 ≤ x1232.toInt ∧ x1232.toInt ≤ 2147483647 := by have := i32_b x1231; omega
              refine u_lmul hx hb dX12_last_75 (fun x1235 => ?_)
              refine q_lcmp_lt (tgt := 101) hx hb dX12_last_76 dX12_last_77 (by decide) rfl rfl (fun c1236 => ?_) (fun c1236 => ?_)
              · exact J1226   _ _ _ hW hF (lv_sub hl [0, 1, 2, 3, 4, 5] rfl)
              · refine lv_lload hx hb dX12_last_80 (lv_at hl 1 rfl) ?_
                refine lv_iload_n hx hb dX12_last_82 rfl (lv_at hl 3 rfl) ?_
                refine q_i2l hx hb dX12_last_83 rfl (fun x1237 h1238 => ?_)
                refine lv_iload_n hx hb dX12_last_84 rfl (lv_at hl 4 rfl) ?_
                refine lv_iload_n hx hb dX12_last_85 rfl (lv_at hl 5 rfl) ?_
                refine lv_iload hx hb dX12_last_86 (lv_at hl 0 rfl) ?_
                refine u_imul hx hb dX12_last_88 (fun x1239 => ?_)
                refine u_iadd hx hb dX12_last_89 (fun x1240 => ?_)
                refine q_i2l hx hb dX12_last_90 rfl (fun x1241 h1242 => ?_)
                have hb1243 : -2147483648 ≤ x1241.toInt ∧ x1241.toInt ≤ 2147483647 := by have := i32_b x1240; omega
                refine u_lmul hx hb dX12_last_91 (fun x1244 => ?_)
                refine u_lsub hx hb dX12_last_92 (fun x1245 => ?_)
                refine lv_lstore (lv' := [(4, .long x1245), (6, .int y1202), (0, .ref h0), (1, .int u1), (2, .int u2), (3, .int u3)]) hx hb dX12_last_93 hl (by decide) rfl (fun ls hl => ?_)
                refine q_iinc hx hb dX12_last_95 hl (k := 1) rfl rfl rfl (by omega) (by decide) (fun i1246 ls h1247 hl => ?_)
                have hl : lv_has ls 7 [(6, .int i1246), (4, .long x1245), (0, .ref h0), (1, .int u1), (2, .int u2), (3, .int u3)] := hl
                refine lv_goto (tgt := 56) hx hb dX12_last_98 (by decide) ?_
                exact ih56 i1246 x1245 (by omega) (by omega) _ _ _ hW hF (lv_sub hl [0, 1, 2, 3, 4, 5] rfl)
        have hk1248 : (0 : Int32).toInt = 0 := rfl
        exact L1205 401 0 x46 (by decide) (by omega) _ _ _ hW hF (lv_sub hl [0, 1, 2, 3, 4, 5] rfl)
      · have q1249 : (x29.toInt < 0 ∨ 1000 < x29.toInt) := by omega
        clear p37
        refine lv_iconst (v := (-1)) hx hb dX12_last_41 (by decide) ?_
        exact e_I E hW rfl ⟨⟨_, rfl, (by have hk : ((-1) : Int32).toInt = -1 := rfl; first | decide | omega)⟩, hF⟩ dX12_last_42
def ms_X12_falls : List (Nat × Nat) := []
def po_X12_falls (kp : Nat → Nat) (L : List Nat) (f0 : Nat → va_E) (h0 : Nat) (u1 : Int32) (u2 : Int64) (u3 : Int32) : Option Value → (Nat → va_E) → Prop := fun v f => (∃ r : Int32, v = some (.int r) ∧ ((0 : Int) ≤ r.toInt ∧ r.toInt ≤ 1)) ∧ FM kp L ms_X12_falls f0 f
set_option maxHeartbeats 4000000 in
set_option maxRecDepth 100000 in
theorem c_X12_falls (l : Launch) (G : va_G) (cI cJ cZ cD cR cT : ClassId) (kp : Nat → Nat) (L : List Nat) (f0 : Nat → va_E) (hTH : TH cI cJ cZ cD cR cT kp L f0) (sz : Nat) (h0 : Nat) (u1 : Int32) (u2 : Int64) (u3 : Int32) (rh0 : RK kp L h0 12) (pu1 : (0 : Int) ≤ u1.toInt ∧ u1.toInt ≤ 7) : Met l yX12_falls (Cond.code yX12_falls cX12_falls 8 (some .boolean) :: wTab) ({ frames := 2, cells := 0, slots := 0, locals := 60 }) (va_Pc [.ref h0, .int u1, .long u2, .int u3] (PreW G (tys6 cI cJ cZ cD cR cT) (va_pl L f0) sz)) (QT (po_X12_falls kp L f0 h0 u1 u2 u3) G cI cJ cZ cD cR cT (va_A (va_pl L f0) sz) kp L) 0 0 (va_A (va_pl L f0) sz) := by
  refine metT (by decide) (Nat.le_of_ble_eq_true rfl) hTH ?_
  intro p e s m below meth c A ls E hW hl
  obtain ⟨hx, hb, -, hml, hown, hts, -, -, -⟩ := id E
  have hF : FM kp L ms_X12_falls f0 f0 := FM.rf
  have hl : lv_has ls 8 [(0, .ref h0), (1, .int u1), (2, .long u2), (4, .int u3)] := hl
  obtain ⟨pR, mR⟩ : ∃ x : Nat, oR (f0 h0) 2 = x := ⟨_, rfl⟩
  have rR : RK kp L pR 822 := by rw [← mR]; exact th_ref hTH rh0 (by decide) (by decide) rfl
  refine lv_aload_n hx hb dX12_falls_0 rfl (lv_at hl 0 rfl) ?_
  refine fg_RX12_8 E hW rh0 dX12_falls_1 (fun a1 m2 r3 => ?_)
  obtain rfl : pR = a1 := (mR).symm.trans m2
  refine lv_iload_n hx hb dX12_falls_4 rfl (lv_at hl 1 rfl) ?_
  refine t_callS (As := [.int u1]) (rest := [.ref pR]) E hW (c_X12_estateAt l G cI cJ cZ cD cR cT kp L f0 hW.2.2.2 _ u1 (by omega)) wk_X12_estateAt tw_1611 rfl ⟨Nat.le_of_ble_eq_true rfl, Nat.le_of_ble_eq_true rfl⟩ ⟨rfl, rfl⟩ hl.1 rfl (Nat.le_of_ble_eq_true rfl) dX12_falls_5 ⟨Nat.le_of_ble_eq_true rfl, Nat.le_of_ble_eq_true rfl⟩ (fun v4 f5 H locs q6 hW => ?_)
  obtain ⟨⟨x8, rfl, p9⟩, g7⟩ := q6
  have hF := FM.tr hF g7 rfl
  refine gl_822 E hW rR ⟨by omega, by omega⟩ dX12_falls_8 (fun y10 m11 b12 => ?_)
  refine q_i2l hx hb dX12_falls_9 rfl (fun x13 h14 => ?_)
  have hb15 : -2147483648 ≤ x13.toInt ∧ x13.toInt ≤ 2147483647 := by have := i32_b y10; omega
  refine lv_lstore (lv' := [(5, .long x13), (0, .ref h0), (1, .int u1), (2, .long u2), (4, .int u3)]) hx hb dX12_falls_10 hl (by decide) rfl (fun ls hl => ?_)
  refine lv_iconst (v := 0) hx hb dX12_falls_12 (by decide) ?_
  refine lv_istore (lv' := [(7, .int 0), (5, .long x13), (0, .ref h0), (1, .int u1), (2, .long u2), (4, .int u3)]) hx hb dX12_falls_13 hl (by decide) rfl (fun ls hl => ?_)
  have L1848 : ∀ (n : Nat), ∀ (f1842 : Nat → va_E) (y1844 : Int32) (y1846 : Int64) (m1843 : oR (f1842 h0) 2 = pR) (b1845 : (0 : Int) ≤ y1844.toInt) (b1847 : (-2147483648 : Int) ≤ y1846.toInt) (hm : (2147483648 : Int) - y1844.toInt ≤ n) (H : Heap) (locs : List Loc) (ls : Array Slot), WS G cI cJ cZ cD cR cT A kp L f1842 s H locs → FM kp L ms_X12_falls f0 f1842 → lv_has ls 8 [(7, .int y1844), (5, .long y1846), (0, .ref h0), (1, .int u1), (2, .long u2), (4, .int u3)] → W p l e ({ frames := 2, cells := 0, slots := 0, locals := 60 }) s m ([.ref h0, .int u1, .long u2, .int u3] : List Value).toArray below meth c H locs 0 0 (MQ below (QT (po_X12_falls kp L f0 h0 u1 u2 u3) G cI cJ cZ cD cR cT A kp L) ([.ref h0, .int u1, .long u2, .int u3] : List Value).toArray s 0 0 A) (F0 m 15 ls []) := by
    intro n
    induction n with
    | zero =>
      intro f1842 y1844 y1846 m1843 b1845 b1847 hm H locs ls hW hF hl
      have hz := i32_b y1844
      exfalso; omega
    | succ n ih =>
      intro f1842 y1844 y1846 m1843 b1845 b1847 hm H locs ls hW hF hl
      clear h14 hb15
      have ih15 := ih
      refine lv_iload hx hb dX12_falls_15 (lv_at hl 0 rfl) ?_
      refine lv_iload hx hb dX12_falls_17 (lv_at hl 5 rfl) ?_
      refine q_icmp_ge (tgt := 56) hx hb dX12_falls_19 (by decide) rfl rfl (fun c1849 => ?_) (fun c1849 => ?_)
      · refine lv_iconst (v := 0) hx hb dX12_falls_56 (by decide) ?_
        exact e_Z E hW rfl (by decide) ⟨⟨_, rfl, (by have hk : (0 : Int32).toInt = 0 := rfl; first | decide | omega)⟩, hF⟩ dX12_falls_57
      · have hb1850 : y1844.toInt ≤ 2147483646 := by have := i32_b u3; omega
        refine lv_lload hx hb dX12_falls_22 (lv_at hl 1 rfl) ?_
        refine lv_lload_n hx hb dX12_falls_24 rfl (lv_at hl 4 rfl) ?_
        refine lv_aload_n hx hb dX12_falls_25 rfl (lv_at hl 2 rfl) ?_
        refine fg_RX12_8 E hW rh0 dX12_falls_26 (fun a1851 m1852 r1853 => ?_)
        obtain rfl : pR = a1851 := (m1843).symm.trans m1852
        refine lv_iload_n hx hb dX12_falls_29 rfl (lv_at hl 3 rfl) ?_
        refine t_callS (As := [.int u1]) (rest := [.ref pR, .long u2, .long y1846]) E hW (c_X12_estateAt l G cI cJ cZ cD cR cT kp L f1842 hW.2.2.2 _ u1 (by omega)) wk_X12_estateAt tw_1611 rfl ⟨Nat.le_of_ble_eq_true rfl, Nat.le_of_ble_eq_true rfl⟩ ⟨rfl, rfl⟩ hl.1 rfl (Nat.le_of_ble_eq_true rfl) dX12_falls_30 ⟨Nat.le_of_ble_eq_true rfl, Nat.le_of_ble_eq_true rfl⟩ (fun v1854 f1855 H locs q1856 hW => ?_)
        obtain ⟨⟨x1858, rfl, p1859⟩, g1857⟩ := q1856
        have hF := FM.tr hF g1857 rfl
        refine lv_iconst (v := 1) hx hb dX12_falls_33 (by decide) ?_
        refine q_iadd (Y := 1) hx hb dX12_falls_34 rfl rfl (by omega) (fun x1860 h1861 => ?_)
        refine gl_822 E hW rR ⟨by omega, by omega⟩ dX12_falls_35 (fun y1862 m1863 b1864 => ?_)
        refine q_i2l hx hb dX12_falls_36 rfl (fun x1865 h1866 => ?_)
        have hb1867 : -2147483648 ≤ x1865.toInt ∧ x1865.toInt ≤ 2147483647 := by have := i32_b y1862; omega
        refine u_lsub hx hb dX12_falls_37 (fun x1868 => ?_)
        refine u_ladd hx hb dX12_falls_38 (fun x1869 => ?_)
        refine lv_lstore (lv' := [(5, .long x1869), (7, .int y1844), (0, .ref h0), (1, .int u1), (2, .long u2), (4, .int u3)]) hx hb dX12_falls_39 hl (by decide) rfl (fun ls hl => ?_)
        refine lv_lload hx hb dX12_falls_41 (lv_at hl 0 rfl) ?_
        refine lv_lconst (v := 0) hx hb dX12_falls_43 (by decide) ?_
        refine q_lcmp_ge (Y := 0) (tgt := 50) hx hb dX12_falls_44 dX12_falls_45 (by decide) rfl rfl (fun c1870 => ?_) (fun c1870 => ?_)
        · refine q_iinc hx hb dX12_falls_50 hl (k := 1) rfl rfl rfl (by omega) (by decide) (fun i1871 ls h1872 hl => ?_)
          have hl : lv_has ls 8 [(7, .int i1871), (5, .long x1869), (0, .ref h0), (1, .int u1), (2, .long u2), (4, .int u3)] := hl
          refine lv_goto (tgt := 15) hx hb dX12_falls_53 (by decide) ?_
          exact ih15 f1855 i1871 x1869 ((fm_R g1857 rh0 rfl).trans m1852) (by omega) (by omega) (by omega) _ _ _ hW hF (lv_sub hl [0, 1, 2, 3, 4, 5] rfl)
        · refine lv_iconst (v := 1) hx hb dX12_falls_48 (by decide) ?_
          exact e_Z E hW rfl (by decide) ⟨⟨_, rfl, (by have hk : (1 : Int32).toInt = 1 := rfl; first | decide | omega)⟩, hF⟩ dX12_falls_49
  have hk1873 : (0 : Int32).toInt = 0 := rfl
  exact L1848 2147483648 f5 0 x13 ((fm_R g7 rh0 rfl).trans m2) (by decide) (by omega) (by omega) _ _ _ hW hF (lv_sub hl [0, 1, 2, 3, 4, 5] rfl)
def rw_X12_offer : List (Nat × Nat) := [(6, 6), (1164, 1181)]
def ms_X12_offer : List (Nat × Nat) := [(12, 0), (12, 1), (822, 0)]
def po_X12_offer (kp : Nat → Nat) (L : List Nat) (f0 : Nat → va_E) (h0 : Nat) (u1 : Int32) (u2 : Int32) : Option Value → (Nat → va_E) → Prop := fun v f => (∃ r : Int32, v = some (.int r) ∧ (True)) ∧ FM kp L ms_X12_offer f0 f ∧ (RF rw_X12_offer f0 f h0)
set_option maxHeartbeats 4000000 in
set_option maxRecDepth 100000 in
theorem c_X12_offer (l : Launch) (G : va_G) (cI cJ cZ cD cR cT : ClassId) (kp : Nat → Nat) (L : List Nat) (f0 : Nat → va_E) (hTH : TH cI cJ cZ cD cR cT kp L f0) (sz : Nat) (h0 : Nat) (u1 : Int32) (u2 : Int32) (rh0 : RK kp L h0 12) : Met l yX12_offer (Cond.code yX12_offer cX12_offer 3 (some .int) :: wTab) ({ frames := 2, cells := 0, slots := 0, locals := 65 }) (va_Pc [.ref h0, .int u1, .int u2] (PreW G (tys6 cI cJ cZ cD cR cT) (va_pl L f0) sz)) (QT (po_X12_offer kp L f0 h0 u1 u2) G cI cJ cZ cD cR cT (va_A (va_pl L f0) sz) kp L) 0 0 (va_A (va_pl L f0) sz) := by
  refine metT (by decide) (Nat.le_of_ble_eq_true rfl) hTH ?_
  intro p e s m below meth c A ls E hW hl
  obtain ⟨hx, hb, -, hml, hown, hts, -, -, -⟩ := id E
  have hF : FM kp L ms_X12_offer f0 f0 := FM.rf
  have hl : lv_has ls 3 [(0, .ref h0), (1, .int u1), (2, .int u2)] := hl
  obtain ⟨pR, mR⟩ : ∃ x : Nat, oR (f0 h0) 2 = x := ⟨_, rfl⟩
  have rR : RK kp L pR 822 := by rw [← mR]; exact th_ref hTH rh0 (by decide) (by decide) rfl
  refine lv_aload_n hx hb dX12_offer_0 rfl (lv_at hl 0 rfl) ?_
  refine lv_iconst (v := 0) hx hb dX12_offer_1 (by decide) ?_
  refine fp_RX12_82 E hW rh0 dX12_offer_2 (fun f1 H locs e2 n3 g4 hW => ?_)
  have z5 : RF rw_X12_offer f0 f1 h0 := rf_fm hTH rf_rf g4 rh0 rfl
  have hF := FM.tr hF g4 rfl
  refine lv_iload_n hx hb dX12_offer_5 rfl (lv_at hl 1 rfl) ?_
  refine q_i2l hx hb dX12_offer_6 rfl (fun x6 h7 => ?_)
  have hb8 : -2147483648 ≤ x6.toInt ∧ x6.toInt ≤ 2147483647 := by have := i32_b u1; omega
  refine lv_ldc2 (v := (-1000)) hx hb hown (hts _ tw_2009) dX12_offer_7 ?_
  refine lv_ldc2 (v := 1000) hx hb hown (hts _ tw_1618) dX12_offer_10 ?_
  refine t_callS (As := [.long x6, .long (-1000), .long 1000]) (rest := []) E hW (c_X12_in l G cI cJ cZ cD cR cT kp L f1 hW.2.2.2 _ x6 (-1000) 1000) wk_X12_in tw_1554 rfl ⟨Nat.le_of_ble_eq_true rfl, Nat.le_of_ble_eq_true rfl⟩ ⟨rfl, rfl⟩ hl.1 rfl (Nat.le_of_ble_eq_true rfl) dX12_offer_13 ⟨Nat.le_of_ble_eq_true rfl, Nat.le_of_ble_eq_true rfl⟩ (fun v9 f10 H locs q11 hW => ?_)
  obtain ⟨⟨x13, rfl, p14⟩, g12⟩ := q11
  have p14 : (x13.toInt = 1 ∧ (-1000) ≤ x6.toInt ∧ x6.toInt ≤ 1000) ∨ (x13.toInt = 0 ∧ (x6.toInt < (-1000) ∨ 1000 < x6.toInt)) := p14
  have z15 : RF rw_X12_offer f0 f10 h0 := rf_fm hTH z5 g12 rh0 rfl
  have hF := FM.tr hF g12 rfl
  refine q_if_eq (tgt := 33) hx hb dX12_offer_16 (by decide) rfl (fun c16 => ?_) (fun c16 => ?_)
  · have q17 : (x6.toInt < (-1000) ∨ 1000 < x6.toInt) := by omega
    clear p14
    refine lv_aload_n hx hb dX12_offer_33 rfl (lv_at hl 0 rfl) ?_
    refine lv_iconst (v := (-1)) hx hb dX12_offer_34 (by decide) ?_
    refine t_callV (As := [.int (-1)]) (rest := []) E hW (c_X12_told l G cI cJ cZ cD cR cT kp L f10 hW.2.2.2 _ h0 (-1) rh0) rh0 (by decide) rfl wk_X12_told tw_1557 rfl ⟨Nat.le_of_ble_eq_true rfl, Nat.le_of_ble_eq_true rfl⟩ ⟨rfl, rfl⟩ hl.1 rfl (Nat.le_of_ble_eq_true rfl) dX12_offer_35 ⟨Nat.le_of_ble_eq_true rfl, Nat.le_of_ble_eq_true rfl⟩ (fun v18 f19 H locs q20 hW => ?_)
    obtain ⟨⟨x22, rfl, p23⟩, g21⟩ := q20
    clear p23
    have z24 : RF rw_X12_offer f0 f19 h0 := rf_fm hTH z15 g21 rh0 rfl
    have hF := FM.tr hF g21 rfl
    exact e_I E hW rfl ⟨⟨_, rfl, trivial⟩, hF, z24⟩ dX12_offer_38
  · have q25 : (-1000) ≤ x6.toInt ∧ x6.toInt ≤ 1000 := by omega
    clear p14
    refine lv_iload_n hx hb dX12_offer_19 rfl (lv_at hl 2 rfl) ?_
    refine q_i2l hx hb dX12_offer_20 rfl (fun x26 h27 => ?_)
    have hb28 : -2147483648 ≤ x26.toInt ∧ x26.toInt ≤ 2147483647 := by have := i32_b u2; omega
    refine lv_ldc2 (v := (-1000)) hx hb hown (hts _ tw_2009) dX12_offer_21 ?_
    refine lv_ldc2 (v := 1000) hx hb hown (hts _ tw_1618) dX12_offer_24 ?_
    refine t_callS (As := [.long x26, .long (-1000), .long 1000]) (rest := []) E hW (c_X12_in l G cI cJ cZ cD cR cT kp L f10 hW.2.2.2 _ x26 (-1000) 1000) wk_X12_in tw_1554 rfl ⟨Nat.le_of_ble_eq_true rfl, Nat.le_of_ble_eq_true rfl⟩ ⟨rfl, rfl⟩ hl.1 rfl (Nat.le_of_ble_eq_true rfl) dX12_offer_27 ⟨Nat.le_of_ble_eq_true rfl, Nat.le_of_ble_eq_true rfl⟩ (fun v29 f30 H locs q31 hW => ?_)
    obtain ⟨⟨x33, rfl, p34⟩, g32⟩ := q31
    have p34 : (x33.toInt = 1 ∧ (-1000) ≤ x26.toInt ∧ x26.toInt ≤ 1000) ∨ (x33.toInt = 0 ∧ (x26.toInt < (-1000) ∨ 1000 < x26.toInt)) := p34
    have z35 : RF rw_X12_offer f0 f30 h0 := rf_fm hTH z15 g32 rh0 rfl
    have hF := FM.tr hF g32 rfl
    refine q_if_ne (tgt := 39) hx hb dX12_offer_30 (by decide) rfl (fun c36 => ?_) (fun c36 => ?_)
    · have q37 : (-1000) ≤ x26.toInt ∧ x26.toInt ≤ 1000 := by omega
      clear p34
      refine lv_aload_n hx hb dX12_offer_39 rfl (lv_at hl 0 rfl) ?_
      refine fg_RX12_8 E hW rh0 dX12_offer_40 (fun a38 m39 r40 => ?_)
      obtain rfl : pR = a38 := (((fm_R g32 rh0 rfl).trans ((fm_R g12 rh0 rfl).trans ((fm_R g4 rh0 rfl).trans mR)))).symm.trans m39
      refine lv_bipush (v := 6) hx hb dX12_offer_43 (by decide) ?_
      refine gl_822 E hW rR (by decide) dX12_offer_45 (fun y41 m42 b43 => ?_)
      have b44 := rr_6 (show RowInv _ from b43) m42 (by decide)
      refine lv_bipush (v := 9) hx hb dX12_offer_46 (by decide) ?_
      refine q_icmp_ne (Y := 9) (tgt := 58) hx hb dX12_offer_48 (by decide) rfl rfl (fun c45 => ?_) (fun c45 => ?_)
      · refine lv_aload_n hx hb dX12_offer_58 rfl (lv_at hl 0 rfl) ?_
        refine fg_RX12_8 E hW rh0 dX12_offer_59 (fun a46 m47 r48 => ?_)
        obtain rfl : pR = a46 := (m39).symm.trans m47
        refine lv_sipush (v := 1164) hx hb dX12_offer_62 (by decide) ?_
        refine lv_iconst (v := 2) hx hb dX12_offer_65 (by decide) ?_
        refine lv_aload_n hx hb dX12_offer_66 rfl (lv_at hl 0 rfl) ?_
        refine fg_RX12_8 E hW rh0 dX12_offer_67 (fun a49 m50 r51 => ?_)
        obtain rfl : pR = a49 := (m47).symm.trans m50
        refine lv_bipush (v := 6) hx hb dX12_offer_70 (by decide) ?_
        refine gl_822 E hW rR (by decide) dX12_offer_72 (fun y52 m53 b54 => ?_)
        obtain rfl : y41 = y52 := (m42).symm.trans m53
        refine q_imul (X := 2) hx hb dX12_offer_73 rfl rfl (by omega) (fun x55 h56 => ?_)
        refine q_iadd (X := 1164) hx hb dX12_offer_74 rfl rfl (by omega) (fun x57 h58 => ?_)
        refine lv_iload_n hx hb dX12_offer_75 rfl (lv_at hl 1 rfl) ?_
        refine gs_822 E hW rR ⟨by omega, by omega⟩ (fun hc => rr_up hc (by omega) (by omega) (by unfold rbI; omega)) dX12_offer_76 (fun f59 H locs e60 n61 g62 hW => ?_)
        have z63 : RF rw_X12_offer f0 f59 h0 := rf_st (lo := 1164) (hi := 1180) z35 mR e60 (by omega) rfl
        have hF := FM.tr hF g62 rfl
        refine lv_aload_n hx hb dX12_offer_77 rfl (lv_at hl 0 rfl) ?_
        refine fg_RX12_8 E hW rh0 dX12_offer_78 (fun a64 m65 r66 => ?_)
        obtain rfl : pR = a64 := (((fm_R g62 rh0 rfl).trans m50)).symm.trans m65
        refine lv_sipush (v := 1164) hx hb dX12_offer_81 (by decide) ?_
        refine lv_iconst (v := 2) hx hb dX12_offer_84 (by decide) ?_
        refine lv_aload_n hx hb dX12_offer_85 rfl (lv_at hl 0 rfl) ?_
        refine fg_RX12_8 E hW rh0 dX12_offer_86 (fun a67 m68 r69 => ?_)
        obtain rfl : pR = a67 := (m65).symm.trans m68
        refine lv_bipush (v := 6) hx hb dX12_offer_89 (by decide) ?_
        refine gl_822 E hW rR (by decide) dX12_offer_91 (fun y70 m71 b72 => ?_)
        obtain rfl : y41 = y70 := ((show aI (f59 pR) (6 : Int32).toNatClampNeg = y41 from by rw [e60, up_n (tn_ne (by omega) (by decide) (by have hk0 : (6 : Int32).toInt = 6 := rfl; omega))]; exact m53)).symm.trans m71
        refine q_imul (X := 2) hx hb dX12_offer_92 rfl rfl (by omega) (fun x73 h74 => ?_)
        refine q_iadd (X := 1164) hx hb dX12_offer_93 rfl rfl (by omega) (fun x75 h76 => ?_)
        refine lv_iconst (v := 1) hx hb dX12_offer_94 (by decide) ?_
        refine q_iadd (Y := 1) hx hb dX12_offer_95 rfl rfl (by omega) (fun x77 h78 => ?_)
        refine lv_iload_n hx hb dX12_offer_96 rfl (lv_at hl 2 rfl) ?_
        refine gs_822 E hW rR ⟨by omega, by omega⟩ (fun hc => rr_up hc (by omega) (by omega) (by unfold rbI; omega)) dX12_offer_97 (fun f79 H locs e80 n81 g82 hW => ?_)
        have z83 : RF rw_X12_offer f0 f79 h0 := rf_st (lo := 1165) (hi := 1181) z63 mR e80 (by omega) rfl
        have hF := FM.tr hF g82 rfl
        refine lv_aload_n hx hb dX12_offer_98 rfl (lv_at hl 0 rfl) ?_
        refine fg_RX12_8 E hW rh0 dX12_offer_99 (fun a84 m85 r86 => ?_)
        obtain rfl : pR = a84 := (((fm_R g82 rh0 rfl).trans m68)).symm.trans m85
        refine lv_bipush (v := 6) hx hb dX12_offer_102 (by decide) ?_
        refine lv_dup2_11 hx hb dX12_offer_104 rfl rfl ?_
        refine gl_822 E hW rR (by decide) dX12_offer_105 (fun y87 m88 b89 => ?_)
        obtain rfl : y41 = y87 := ((show aI (f79 pR) (6 : Int32).toNatClampNeg = y41 from by rw [e80, up_n (tn_ne (by omega) (by decide) (by have hk0 : (6 : Int32).toInt = 6 := rfl; omega))]; exact m71)).symm.trans m88
        refine lv_iconst (v := 1) hx hb dX12_offer_106 (by decide) ?_
        refine q_iadd (Y := 1) hx hb dX12_offer_107 rfl rfl (by omega) (fun x90 h91 => ?_)
        have hk92 : (6 : Int32).toInt = 6 := rfl
        refine gs_822 E hW rR (by decide) (fun hc => rr_up hc (by omega) (by omega) (by unfold rbI; omega)) dX12_offer_108 (fun f93 H locs e94 n95 g96 hW => ?_)
        have z97 : RF rw_X12_offer f0 f93 h0 := rf_st (lo := 6) (hi := 6) z83 mR e94 (by decide) rfl
        have hF := FM.tr hF g96 rfl
        refine lv_aload_n hx hb dX12_offer_109 rfl (lv_at hl 0 rfl) ?_
        refine lv_aload_n hx hb dX12_offer_110 rfl (lv_at hl 0 rfl) ?_
        refine fg_RX12_8 E hW rh0 dX12_offer_111 (fun a98 m99 r100 => ?_)
        obtain rfl : pR = a98 := (((fm_R g96 rh0 rfl).trans m85)).symm.trans m99
        refine lv_bipush (v := 6) hx hb dX12_offer_114 (by decide) ?_
        refine gl_822 E hW rR (by decide) dX12_offer_116 (fun y101 m102 b103 => ?_)
        obtain rfl : x90 = y101 := ((show aI (f93 pR) (6 : Int32).toNatClampNeg = x90 from by rw [e94]; exact up_s)).symm.trans m102
        refine t_callV (As := [.int x90]) (rest := []) E hW (c_X12_told l G cI cJ cZ cD cR cT kp L f93 hW.2.2.2 _ h0 x90 rh0) rh0 (by decide) rfl wk_X12_told tw_1557 rfl ⟨Nat.le_of_ble_eq_true rfl, Nat.le_of_ble_eq_true rfl⟩ ⟨rfl, rfl⟩ hl.1 rfl (Nat.le_of_ble_eq_true rfl) dX12_offer_117 ⟨Nat.le_of_ble_eq_true rfl, Nat.le_of_ble_eq_true rfl⟩ (fun v104 f105 H locs q106 hW => ?_)
        obtain ⟨⟨x108, rfl, p109⟩, g107⟩ := q106
        clear p109
        have m110 : aI (f105 pR) (x57 : Int32).toNatClampNeg = u1 := ((congrArg (fun z => aI z (x57 : Int32).toNatClampNeg) (fm_A g107 rR (by decide) rfl)).trans (show aI (f93 pR) (x57 : Int32).toNatClampNeg = u1 from by rw [e94, up_n (tn_ne (by decide) (by omega) (by have hk0 : (6 : Int32).toInt = 6 := rfl; omega))]; exact (show aI (f79 pR) (x57 : Int32).toNatClampNeg = u1 from by rw [e80, up_n (tn_ne (by omega) (by omega) (by omega))]; exact (show aI (f59 pR) (x57 : Int32).toNatClampNeg = u1 from by rw [e60]; exact up_s))))
        have m111 : aI (f105 pR) (x77 : Int32).toNatClampNeg = u2 := ((congrArg (fun z => aI z (x77 : Int32).toNatClampNeg) (fm_A g107 rR (by decide) rfl)).trans (show aI (f93 pR) (x77 : Int32).toNatClampNeg = u2 from by rw [e94, up_n (tn_ne (by decide) (by omega) (by have hk0 : (6 : Int32).toInt = 6 := rfl; omega))]; exact (show aI (f79 pR) (x77 : Int32).toNatClampNeg = u2 from by rw [e80]; exact up_s)))
        have z112 : RF rw_X12_offer f0 f105 h0 := rf_fm hTH z97 g107 rh0 rfl
        have hF := FM.tr hF g107 rfl
        exact e_I E hW rfl ⟨⟨_, rfl, trivial⟩, hF, z112⟩ dX12_offer_120
      · refine lv_aload_n hx hb dX12_offer_51 rfl (lv_at hl 0 rfl) ?_
        refine lv_bipush (v := (-5)) hx hb dX12_offer_52 (by decide) ?_
        refine t_callV (As := [.int (-5)]) (rest := []) E hW (c_X12_told l G cI cJ cZ cD cR cT kp L f30 hW.2.2.2 _ h0 (-5) rh0) rh0 (by decide) rfl wk_X12_told tw_1557 rfl ⟨Nat.le_of_ble_eq_true rfl, Nat.le_of_ble_eq_true rfl⟩ ⟨rfl, rfl⟩ hl.1 rfl (Nat.le_of_ble_eq_true rfl) dX12_offer_54 ⟨Nat.le_of_ble_eq_true rfl, Nat.le_of_ble_eq_true rfl⟩ (fun v113 f114 H locs q115 hW => ?_)
        obtain ⟨⟨x117, rfl, p118⟩, g116⟩ := q115
        clear p118
        have z119 : RF rw_X12_offer f0 f114 h0 := rf_fm hTH z35 g116 rh0 rfl
        have hF := FM.tr hF g116 rfl
        exact e_I E hW rfl ⟨⟨_, rfl, trivial⟩, hF, z119⟩ dX12_offer_57
    · have q120 : (x26.toInt < (-1000) ∨ 1000 < x26.toInt) := by omega
      clear p34
      refine lv_aload_n hx hb dX12_offer_33 rfl (lv_at hl 0 rfl) ?_
      refine lv_iconst (v := (-1)) hx hb dX12_offer_34 (by decide) ?_
      refine t_callV (As := [.int (-1)]) (rest := []) E hW (c_X12_told l G cI cJ cZ cD cR cT kp L f30 hW.2.2.2 _ h0 (-1) rh0) rh0 (by decide) rfl wk_X12_told tw_1557 rfl ⟨Nat.le_of_ble_eq_true rfl, Nat.le_of_ble_eq_true rfl⟩ ⟨rfl, rfl⟩ hl.1 rfl (Nat.le_of_ble_eq_true rfl) dX12_offer_35 ⟨Nat.le_of_ble_eq_true rfl, Nat.le_of_ble_eq_true rfl⟩ (fun v121 f122 H locs q123 hW => ?_)
      obtain ⟨⟨x125, rfl, p126⟩, g124⟩ := q123
      clear p126
      have z127 : RF rw_X12_offer f0 f122 h0 := rf_fm hTH z35 g124 rh0 rfl
      have hF := FM.tr hF g124 rfl
      exact e_I E hW rfl ⟨⟨_, rfl, trivial⟩, hF, z127⟩ dX12_offer_38
def ms_X12_agree : List (Nat × Nat) := [(12, 0)]
def po_X12_agree (kp : Nat → Nat) (L : List Nat) (f0 : Nat → va_E) (h0 : Nat) (u1 : Int32) (u2 : Int32) : Option Value → (Nat → va_E) → Prop := fun v f => (∃ r : Int32, v = some (.int r) ∧ ((-1 : Int) ≤ r.toInt)) ∧ FM kp L ms_X12_agree f0 f
set_option maxHeartbeats 4000000 in
set_option maxRecDepth 100000 in
theorem c_X12_agree (l : Launch) (G : va_G) (cI cJ cZ cD cR cT : ClassId) (kp : Nat → Nat) (L : List Nat) (f0 : Nat → va_E) (hTH : TH cI cJ cZ cD cR cT kp L f0) (sz : Nat) (h0 : Nat) (u1 : Int32) (u2 : Int32) (rh0 : RK kp L h0 12) : Met l yX12_agree (Cond.code yX12_agree cX12_agree 11 (some .int) :: wTab) ({ frames := 2, cells := 0, slots := 0, locals := 65 }) (va_Pc [.ref h0, .int u1, .int u2] (PreW G (tys6 cI cJ cZ cD cR cT) (va_pl L f0) sz)) (QT (po_X12_agree kp L f0 h0 u1 u2) G cI cJ cZ cD cR cT (va_A (va_pl L f0) sz) kp L) 0 0 (va_A (va_pl L f0) sz) := by
  refine metT (by decide) (Nat.le_of_ble_eq_true rfl) hTH ?_
  intro p e s m below meth c A ls E hW hl
  obtain ⟨hx, hb, -, hml, hown, hts, -, -, -⟩ := id E
  have hF : FM kp L ms_X12_agree f0 f0 := FM.rf
  have hl : lv_has ls 11 [(0, .ref h0), (1, .int u1), (2, .int u2)] := hl
  obtain ⟨pR, mR⟩ : ∃ x : Nat, oR (f0 h0) 2 = x := ⟨_, rfl⟩
  have rR : RK kp L pR 822 := by rw [← mR]; exact th_ref hTH rh0 (by decide) (by decide) rfl
  refine lv_aload_n hx hb dX12_agree_0 rfl (lv_at hl 0 rfl) ?_
  refine lv_iconst (v := 0) hx hb dX12_agree_1 (by decide) ?_
  refine fp_RX12_82 E hW rh0 dX12_agree_2 (fun f1 H locs e2 n3 g4 hW => ?_)
  have hF := FM.tr hF g4 rfl
  refine lv_iload_n hx hb dX12_agree_5 rfl (lv_at hl 1 rfl) ?_
  refine q_i2l hx hb dX12_agree_6 rfl (fun x5 h6 => ?_)
  have hb7 : -2147483648 ≤ x5.toInt ∧ x5.toInt ≤ 2147483647 := by have := i32_b u1; omega
  refine lv_ldc2 (v := (-10000)) hx hb hown (hts _ tw_2014) dX12_agree_7 ?_
  refine lv_ldc2 (v := 10000) hx hb hown (hts _ tw_1723) dX12_agree_10 ?_
  refine t_callS (As := [.long x5, .long (-10000), .long 10000]) (rest := []) E hW (c_X12_in l G cI cJ cZ cD cR cT kp L f1 hW.2.2.2 _ x5 (-10000) 10000) wk_X12_in tw_1554 rfl ⟨Nat.le_of_ble_eq_true rfl, Nat.le_of_ble_eq_true rfl⟩ ⟨rfl, rfl⟩ hl.1 rfl (Nat.le_of_ble_eq_true rfl) dX12_agree_13 ⟨Nat.le_of_ble_eq_true rfl, Nat.le_of_ble_eq_true rfl⟩ (fun v8 f9 H locs q10 hW => ?_)
  obtain ⟨⟨x12, rfl, p13⟩, g11⟩ := q10
  have p13 : (x12.toInt = 1 ∧ (-10000) ≤ x5.toInt ∧ x5.toInt ≤ 10000) ∨ (x12.toInt = 0 ∧ (x5.toInt < (-10000) ∨ 10000 < x5.toInt)) := p13
  have hF := FM.tr hF g11 rfl
  refine q_if_eq (tgt := 33) hx hb dX12_agree_16 (by decide) rfl (fun c14 => ?_) (fun c14 => ?_)
  · have q15 : (x5.toInt < (-10000) ∨ 10000 < x5.toInt) := by omega
    clear p13
    refine lv_iconst (v := (-1)) hx hb dX12_agree_33 (by decide) ?_
    exact e_I E hW rfl ⟨⟨_, rfl, (by have hk : ((-1) : Int32).toInt = -1 := rfl; first | decide | omega)⟩, hF⟩ dX12_agree_34
  · have q16 : (-10000) ≤ x5.toInt ∧ x5.toInt ≤ 10000 := by omega
    clear p13
    refine lv_iload_n hx hb dX12_agree_19 rfl (lv_at hl 2 rfl) ?_
    refine q_i2l hx hb dX12_agree_20 rfl (fun x17 h18 => ?_)
    have hb19 : -2147483648 ≤ x17.toInt ∧ x17.toInt ≤ 2147483647 := by have := i32_b u2; omega
    refine lv_ldc2 (v := (-10000)) hx hb hown (hts _ tw_2014) dX12_agree_21 ?_
    refine lv_ldc2 (v := 10000) hx hb hown (hts _ tw_1723) dX12_agree_24 ?_
    refine t_callS (As := [.long x17, .long (-10000), .long 10000]) (rest := []) E hW (c_X12_in l G cI cJ cZ cD cR cT kp L f9 hW.2.2.2 _ x17 (-10000) 10000) wk_X12_in tw_1554 rfl ⟨Nat.le_of_ble_eq_true rfl, Nat.le_of_ble_eq_true rfl⟩ ⟨rfl, rfl⟩ hl.1 rfl (Nat.le_of_ble_eq_true rfl) dX12_agree_27 ⟨Nat.le_of_ble_eq_true rfl, Nat.le_of_ble_eq_true rfl⟩ (fun v20 f21 H locs q22 hW => ?_)
    obtain ⟨⟨x24, rfl, p25⟩, g23⟩ := q22
    have p25 : (x24.toInt = 1 ∧ (-10000) ≤ x17.toInt ∧ x17.toInt ≤ 10000) ∨ (x24.toInt = 0 ∧ (x17.toInt < (-10000) ∨ 10000 < x17.toInt)) := p25
    have hF := FM.tr hF g23 rfl
    refine q_if_ne (tgt := 35) hx hb dX12_agree_30 (by decide) rfl (fun c26 => ?_) (fun c26 => ?_)
    · have q27 : (-10000) ≤ x17.toInt ∧ x17.toInt ≤ 10000 := by omega
      clear p25
      refine lv_iconst (v := (-1)) hx hb dX12_agree_35 (by decide) ?_
      refine lv_istore_n (lv' := [(3, .int (-1)), (0, .ref h0), (1, .int u1), (2, .int u2)]) hx hb dX12_agree_36 rfl hl (by decide) rfl (fun ls hl => ?_)
      refine lv_iconst (v := 0) hx hb dX12_agree_37 (by decide) ?_
      refine lv_istore (lv' := [(4, .int 0), (3, .int (-1)), (0, .ref h0), (1, .int u1), (2, .int u2)]) hx hb dX12_agree_38 hl (by decide) rfl (fun ls hl => ?_)
      refine lv_iconst (v := 0) hx hb dX12_agree_40 (by decide) ?_
      refine lv_istore (lv' := [(5, .int 0), (4, .int 0), (3, .int (-1)), (0, .ref h0), (1, .int u1), (2, .int u2)]) hx hb dX12_agree_41 hl (by decide) rfl (fun ls hl => ?_)
      refine lv_iconst (v := 0) hx hb dX12_agree_43 (by decide) ?_
      refine lv_istore (lv' := [(6, .int 0), (5, .int 0), (4, .int 0), (3, .int (-1)), (0, .ref h0), (1, .int u1), (2, .int u2)]) hx hb dX12_agree_44 hl (by decide) rfl (fun ls hl => ?_)
      have L215288 : ∀ (n : Nat), ∀ (y215282 : Int32) (y215284 : Int32) (y215285 : Int32) (y215286 : Int32) (b215283 : (0 : Int) ≤ y215282.toInt) (b215287 : (-1 : Int) ≤ y215286.toInt) (hm : (2147483648 : Int) - y215282.toInt ≤ n) (H : Heap) (locs : List Loc) (ls : Array Slot), WS G cI cJ cZ cD cR cT A kp L f21 s H locs → FM kp L ms_X12_agree f0 f21 → lv_has ls 11 [(6, .int y215282), (5, .int y215284), (4, .int y215285), (3, .int y215286), (0, .ref h0), (1, .int u1), (2, .int u2)] → W p l e ({ frames := 2, cells := 0, slots := 0, locals := 65 }) s m ([.ref h0, .int u1, .int u2] : List Value).toArray below meth c H locs 0 0 (MQ below (QT (po_X12_agree kp L f0 h0 u1 u2) G cI cJ cZ cD cR cT A kp L) ([.ref h0, .int u1, .int u2] : List Value).toArray s 0 0 A) (F0 m 46 ls []) := by
        intro n
        induction n with
        | zero =>
          intro y215282 y215284 y215285 y215286 b215283 b215287 hm H locs ls hW hF hl
          have hz := i32_b y215282
          exfalso; omega
        | succ n ih =>
          intro y215282 y215284 y215285 y215286 b215283 b215287 hm H locs ls hW hF hl
          clear c14 c26
          have ih46 := ih
          refine lv_iload hx hb dX12_agree_46 (lv_at hl 0 rfl) ?_
          refine lv_iconst (v := 1) hx hb dX12_agree_48 (by decide) ?_
          refine lv_aload_n hx hb dX12_agree_49 rfl (lv_at hl 4 rfl) ?_
          refine fg_RX12_8 E hW rh0 dX12_agree_50 (fun a215289 m215290 r215291 => ?_)
          obtain rfl : pR = a215289 := (((fm_R g23 rh0 rfl).trans ((fm_R g11 rh0 rfl).trans ((fm_R g4 rh0 rfl).trans mR)))).symm.trans m215290
          refine lv_bipush (v := 6) hx hb dX12_agree_53 (by decide) ?_
          refine gl_822 E hW rR (by decide) dX12_agree_55 (fun y215292 m215293 b215294 => ?_)
          have b215295 := rr_6 (show RowInv _ from b215294) m215293 (by decide)
          refine u_ishl hx hb dX12_agree_56 (fun x215296 => ?_)
          refine q_icmp_ge (tgt := 228) hx hb dX12_agree_57 (by decide) rfl rfl (fun c218699 => ?_) (fun c218699 => ?_)
          · refine lv_iload_n hx hb dX12_agree_228 rfl (lv_at hl 3 rfl) ?_
            exact e_I E hW rfl ⟨⟨_, rfl, (by first | omega | trivial)⟩, hF⟩ dX12_agree_229
          · have hb218700 : y215282.toInt ≤ 2147483646 := by have := i32_b x215296; omega
            refine lv_iconst (v := 0) hx hb dX12_agree_60 (by decide) ?_
            refine lv_istore (lv' := [(7, .int 0), (6, .int y215282), (5, .int y215284), (4, .int y215285), (3, .int y215286), (0, .ref h0), (1, .int u1), (2, .int u2)]) hx hb dX12_agree_61 hl (by decide) rfl (fun ls hl => ?_)
            refine lv_iconst (v := 0) hx hb dX12_agree_63 (by decide) ?_
            refine lv_istore (lv' := [(8, .int 0), (7, .int 0), (6, .int y215282), (5, .int y215284), (4, .int y215285), (3, .int y215286), (0, .ref h0), (1, .int u1), (2, .int u2)]) hx hb dX12_agree_64 hl (by decide) rfl (fun ls hl => ?_)
            refine lv_iconst (v := 0) hx hb dX12_agree_66 (by decide) ?_
            refine lv_istore (lv' := [(9, .int 0), (8, .int 0), (7, .int 0), (6, .int y215282), (5, .int y215284), (4, .int y215285), (3, .int y215286), (0, .ref h0), (1, .int u1), (2, .int u2)]) hx hb dX12_agree_67 hl (by decide) rfl (fun ls hl => ?_)
            refine lv_iconst (v := 0) hx hb dX12_agree_69 (by decide) ?_
            refine lv_istore (lv' := [(10, .int 0), (9, .int 0), (8, .int 0), (7, .int 0), (6, .int y215282), (5, .int y215284), (4, .int y215285), (3, .int y215286), (0, .ref h0), (1, .int u1), (2, .int u2)]) hx hb dX12_agree_70 hl (by decide) rfl (fun ls hl => ?_)
            have L221985 : ∀ (n : Nat), ∀ (y221980 : Int32) (y221982 : Int32) (y221983 : Int32) (y221984 : Int32) (b221981 : (0 : Int) ≤ y221980.toInt ∧ y221980.toInt ≤ 9) (hm : (10 : Int) - y221980.toInt ≤ n) (H : Heap) (locs : List Loc) (ls : Array Slot), WS G cI cJ cZ cD cR cT A kp L f21 s H locs → FM kp L ms_X12_agree f0 f21 → lv_has ls 11 [(10, .int y221980), (9, .int y221982), (8, .int y221983), (7, .int y221984), (6, .int y215282), (5, .int y215284), (4, .int y215285), (3, .int y215286), (0, .ref h0), (1, .int u1), (2, .int u2)] → W p l e ({ frames := 2, cells := 0, slots := 0, locals := 65 }) s m ([.ref h0, .int u1, .int u2] : List Value).toArray below meth c H locs 0 0 (MQ below (QT (po_X12_agree kp L f0 h0 u1 u2) G cI cJ cZ cD cR cT A kp L) ([.ref h0, .int u1, .int u2] : List Value).toArray s 0 0 A) (F0 m 72 ls []) := by
              intro n
              induction n with
              | zero =>
                intro y221980 y221982 y221983 y221984 b221981 hm H locs ls hW hF hl
                have hz := i32_b y221980
                exfalso; omega
              | succ n ih =>
                intro y221980 y221982 y221983 y221984 b221981 hm H locs ls hW hF hl
                have ih72 := ih
                refine lv_iload hx hb dX12_agree_72 (lv_at hl 0 rfl) ?_
                refine lv_aload_n hx hb dX12_agree_74 rfl (lv_at hl 8 rfl) ?_
                refine fg_RX12_8 E hW rh0 dX12_agree_75 (fun a221986 m221987 r221988 => ?_)
                obtain rfl : pR = a221986 := (m215290).symm.trans m221987
                refine lv_bipush (v := 6) hx hb dX12_agree_78 (by decide) ?_
                refine gl_822 E hW rR (by decide) dX12_agree_80 (fun y221989 m221990 b221991 => ?_)
                obtain rfl : y215292 = y221989 := (m215293).symm.trans m221990
                refine q_icmp_ge (tgt := 156) hx hb dX12_agree_81 (by decide) rfl rfl (fun c222030 => ?_) (fun c222030 => ?_)
                · refine lv_iload_n hx hb dX12_agree_156 rfl (lv_at hl 7 rfl) ?_
                  have J222041 : ∀ (y222039 : Int32) (b222040 : (0 : Int) ≤ y222039.toInt ∧ y222039.toInt ≤ 1) (H : Heap) (locs : List Loc) (ls : Array Slot), WS G cI cJ cZ cD cR cT A kp L f21 s H locs → FM kp L ms_X12_agree f0 f21 → lv_has ls 11 [(10, .int y221980), (9, .int y221982), (8, .int y221983), (7, .int y221984), (6, .int y215282), (5, .int y215284), (4, .int y215285), (3, .int y215286), (0, .ref h0), (1, .int u1), (2, .int u2)] → W p l e ({ frames := 2, cells := 0, slots := 0, locals := 65 }) s m ([.ref h0, .int u1, .int u2] : List Value).toArray below meth c H locs 0 0 (MQ below (QT (po_X12_agree kp L f0 h0 u1 u2) G cI cJ cZ cD cR cT A kp L) ([.ref h0, .int u1, .int u2] : List Value).toArray s 0 0 A) (F0 m 189 ls [.int y222039]) := by
                    intro y222039 b222040 H locs ls hW hF hl
                    refine lv_istore (lv' := [(10, .int y222039), (9, .int y221982), (8, .int y221983), (7, .int y221984), (6, .int y215282), (5, .int y215284), (4, .int y215285), (3, .int y215286), (0, .ref h0), (1, .int u1), (2, .int u2)]) hx hb dX12_agree_189 hl (by decide) rfl (fun ls hl => ?_)
                    refine lv_iload hx hb dX12_agree_191 (lv_at hl 3 rfl) ?_
                    refine lv_iload_n hx hb dX12_agree_193 rfl (lv_at hl 9 rfl) ?_
                    have J222049 : ∀ (y222045 : Int32) (y222046 : Int32) (y222047 : Int32) (b222048 : (-1 : Int) ≤ y222047.toInt) (H : Heap) (locs : List Loc) (ls : Array Slot), WS G cI cJ cZ cD cR cT A kp L f21 s H locs → FM kp L ms_X12_agree f0 f21 → lv_has ls 11 [(10, .int y222039), (9, .int y221982), (8, .int y221983), (7, .int y221984), (6, .int y215282), (5, .int y222045), (4, .int y222046), (3, .int y222047), (0, .ref h0), (1, .int u1), (2, .int u2)] → W p l e ({ frames := 2, cells := 0, slots := 0, locals := 65 }) s m ([.ref h0, .int u1, .int u2] : List Value).toArray below meth c H locs 0 0 (MQ below (QT (po_X12_agree kp L f0 h0 u1 u2) G cI cJ cZ cD cR cT A kp L) ([.ref h0, .int u1, .int u2] : List Value).toArray s 0 0 A) (F0 m 222 ls []) := by
                      intro y222045 y222046 y222047 b222048 H locs ls hW hF hl
                      clear b215287
                      refine q_iinc hx hb dX12_agree_222 hl (k := 4) rfl rfl rfl (by omega) (by decide) (fun i222050 ls h222051 hl => ?_)
                      have hl : lv_has ls 11 [(6, .int i222050), (10, .int y222039), (9, .int y221982), (8, .int y221983), (7, .int y221984), (5, .int y222045), (4, .int y222046), (3, .int y222047), (0, .ref h0), (1, .int u1), (2, .int u2)] := hl
                      refine lv_goto (tgt := 46) hx hb dX12_agree_225 (by decide) ?_
                      exact ih46 i222050 y222045 y222046 y222047 (by omega) (by omega) (by omega) _ _ _ hW hF (lv_sub hl [0, 5, 6, 7, 8, 9, 10] rfl)
                    refine q_icmp_lt (tgt := 222) hx hb dX12_agree_194 (by decide) rfl rfl (fun c222052 => ?_) (fun c222052 => ?_)
                    · exact J222049 y215284 y215285 y215286 (by omega) _ _ _ hW hF (lv_sub hl [0, 1, 2, 3, 4, 5, 6, 7, 8, 9, 10] rfl)
                    · refine lv_iload hx hb dX12_agree_197 (lv_at hl 2 rfl) ?_
                      refine lv_iload_n hx hb dX12_agree_199 rfl (lv_at hl 10 rfl) ?_
                      refine q_icmp_lt (tgt := 222) hx hb dX12_agree_200 (by decide) rfl rfl (fun c222053 => ?_) (fun c222053 => ?_)
                      · exact J222049 y215284 y215285 y215286 (by omega) _ _ _ hW hF (lv_sub hl [0, 1, 2, 3, 4, 5, 6, 7, 8, 9, 10] rfl)
                      · refine lv_iload hx hb dX12_agree_203 (lv_at hl 0 rfl) ?_
                        refine q_if_eq (tgt := 222) hx hb dX12_agree_205 (by decide) rfl (fun c222054 => ?_) (fun c222054 => ?_)
                        · exact J222049 y215284 y215285 y215286 (by omega) _ _ _ hW hF (lv_sub hl [0, 1, 2, 3, 4, 5, 6, 7, 8, 9, 10] rfl)
                        · refine lv_iload hx hb dX12_agree_208 (lv_at hl 4 rfl) ?_
                          refine lv_istore_n (lv' := [(3, .int y215282), (10, .int y222039), (9, .int y221982), (8, .int y221983), (7, .int y221984), (6, .int y215282), (5, .int y215284), (4, .int y215285), (0, .ref h0), (1, .int u1), (2, .int u2)]) hx hb dX12_agree_210 rfl hl (by decide) rfl (fun ls hl => ?_)
                          refine lv_iload hx hb dX12_agree_211 (lv_at hl 2 rfl) ?_
                          refine lv_istore (lv' := [(4, .int y221982), (3, .int y215282), (10, .int y222039), (9, .int y221982), (8, .int y221983), (7, .int y221984), (6, .int y215282), (5, .int y215284), (0, .ref h0), (1, .int u1), (2, .int u2)]) hx hb dX12_agree_213 hl (by decide) rfl (fun ls hl => ?_)
                          refine lv_iload hx hb dX12_agree_215 (lv_at hl 5 rfl) ?_
                          refine lv_iload hx hb dX12_agree_217 (lv_at hl 4 rfl) ?_
                          refine u_iadd hx hb dX12_agree_219 (fun x222055 => ?_)
                          refine lv_istore (lv' := [(5, .int x222055), (4, .int y221982), (3, .int y215282), (10, .int y222039), (9, .int y221982), (8, .int y221983), (7, .int y221984), (6, .int y215282), (0, .ref h0), (1, .int u1), (2, .int u2)]) hx hb dX12_agree_220 hl (by decide) rfl (fun ls hl => ?_)
                          exact J222049 x222055 y221982 y215282 (by omega) _ _ _ hW hF (lv_sub hl [3, 4, 5, 6, 7, 0, 1, 2, 8, 9, 10] rfl)
                  refine q_if_lt (tgt := 184) hx hb dX12_agree_157 (by decide) rfl (fun c222056 => ?_) (fun c222056 => ?_)
                  · refine lv_iconst (v := 1) hx hb dX12_agree_184 (by decide) ?_
                    refine lv_goto (tgt := 189) hx hb dX12_agree_185 (by decide) ?_
                    exact J222041 1 (by decide) _ _ _ hW hF (lv_sub hl [0, 1, 2, 3, 4, 5, 6, 7, 8, 9, 10] rfl)
                  · refine lv_iload hx hb dX12_agree_160 (lv_at hl 1 rfl) ?_
                    refine lv_iload hx hb dX12_agree_162 (lv_at hl 6 rfl) ?_
                    refine q_icmp_lt (tgt := 184) hx hb dX12_agree_164 (by decide) rfl rfl (fun c222057 => ?_) (fun c222057 => ?_)
                    · have hb222058 : y221982.toInt ≤ 2147483646 := by have := i32_b y215285; omega
                      have hb222059 : -2147483647 ≤ y215285.toInt := by have := i32_b y221982; omega
                      refine lv_iconst (v := 1) hx hb dX12_agree_184 (by decide) ?_
                      refine lv_goto (tgt := 189) hx hb dX12_agree_185 (by decide) ?_
                      exact J222041 1 (by decide) _ _ _ hW hF (lv_sub hl [0, 1, 2, 3, 4, 5, 6, 7, 8, 9, 10] rfl)
                    · refine lv_iload hx hb dX12_agree_167 (lv_at hl 1 rfl) ?_
                      refine lv_iload hx hb dX12_agree_169 (lv_at hl 6 rfl) ?_
                      refine q_icmp_ne (tgt := 188) hx hb dX12_agree_171 (by decide) rfl rfl (fun c222060 => ?_) (fun c222060 => ?_)
                      · refine lv_iconst (v := 0) hx hb dX12_agree_188 (by decide) ?_
                        exact J222041 0 (by decide) _ _ _ hW hF (lv_sub hl [0, 1, 2, 3, 4, 5, 6, 7, 8, 9, 10] rfl)
                      · refine lv_iload hx hb dX12_agree_174 (lv_at hl 3 rfl) ?_
                        refine lv_iload hx hb dX12_agree_176 (lv_at hl 2 rfl) ?_
                        refine u_iadd hx hb dX12_agree_178 (fun x222061 => ?_)
                        refine lv_iload hx hb dX12_agree_179 (lv_at hl 5 rfl) ?_
                        refine q_icmp_le (tgt := 188) hx hb dX12_agree_181 (by decide) rfl rfl (fun c222062 => ?_) (fun c222062 => ?_)
                        · refine lv_iconst (v := 0) hx hb dX12_agree_188 (by decide) ?_
                          exact J222041 0 (by decide) _ _ _ hW hF (lv_sub hl [0, 1, 2, 3, 4, 5, 6, 7, 8, 9, 10] rfl)
                        · have hb222063 : y215284.toInt ≤ 2147483646 := by have := i32_b x222061; omega
                          have hb222064 : -2147483647 ≤ x222061.toInt := by have := i32_b y215284; omega
                          refine lv_iconst (v := 1) hx hb dX12_agree_184 (by decide) ?_
                          refine lv_goto (tgt := 189) hx hb dX12_agree_185 (by decide) ?_
                          exact J222041 1 (by decide) _ _ _ hW hF (lv_sub hl [0, 1, 2, 3, 4, 5, 6, 7, 8, 9, 10] rfl)
                · refine lv_iload hx hb dX12_agree_84 (lv_at hl 3 rfl) ?_
                  refine lv_iload hx hb dX12_agree_86 (lv_at hl 4 rfl) ?_
                  refine lv_iload hx hb dX12_agree_88 (lv_at hl 0 rfl) ?_
                  refine u_ishr hx hb dX12_agree_90 (fun x222065 => ?_)
                  refine lv_iconst (v := 1) hx hb dX12_agree_91 (by decide) ?_
                  refine q_iand (M := 1) (k := 1) hx hb dX12_agree_92 (by decide) (by decide) (by decide) (fun x222066 h222067 => ?_)
                  refine lv_aload_n hx hb dX12_agree_93 rfl (lv_at hl 8 rfl) ?_
                  refine fg_RX12_8 E hW rh0 dX12_agree_94 (fun a222068 m222069 r222070 => ?_)
                  obtain rfl : pR = a222068 := (m221987).symm.trans m222069
                  refine lv_sipush (v := 1164) hx hb dX12_agree_97 (by decide) ?_
                  refine lv_iconst (v := 2) hx hb dX12_agree_100 (by decide) ?_
                  refine lv_iload hx hb dX12_agree_101 (lv_at hl 0 rfl) ?_
                  refine q_imul (X := 2) hx hb dX12_agree_103 rfl rfl (by omega) (fun x222071 h222072 => ?_)
                  refine q_iadd (X := 1164) hx hb dX12_agree_104 rfl rfl (by omega) (fun x222073 h222074 => ?_)
                  refine gl_822 E hW rR ⟨by omega, by omega⟩ dX12_agree_105 (fun y222075 m222076 b222077 => ?_)
                  refine u_imul hx hb dX12_agree_106 (fun x222078 => ?_)
                  refine u_iadd hx hb dX12_agree_107 (fun x222079 => ?_)
                  refine lv_istore (lv' := [(7, .int x222079), (10, .int y221980), (9, .int y221982), (8, .int y221983), (6, .int y215282), (5, .int y215284), (4, .int y215285), (3, .int y215286), (0, .ref h0), (1, .int u1), (2, .int u2)]) hx hb dX12_agree_108 hl (by decide) rfl (fun ls hl => ?_)
                  refine lv_iload hx hb dX12_agree_110 (lv_at hl 3 rfl) ?_
                  refine lv_iload hx hb dX12_agree_112 (lv_at hl 4 rfl) ?_
                  refine lv_iload hx hb dX12_agree_114 (lv_at hl 1 rfl) ?_
                  refine u_ishr hx hb dX12_agree_116 (fun x222080 => ?_)
                  refine lv_iconst (v := 1) hx hb dX12_agree_117 (by decide) ?_
                  refine q_iand (M := 1) (k := 1) hx hb dX12_agree_118 (by decide) (by decide) (by decide) (fun x222081 h222082 => ?_)
                  refine lv_aload_n hx hb dX12_agree_119 rfl (lv_at hl 8 rfl) ?_
                  refine fg_RX12_8 E hW rh0 dX12_agree_120 (fun a222083 m222084 r222085 => ?_)
                  obtain rfl : pR = a222083 := (m222069).symm.trans m222084
                  refine lv_sipush (v := 1164) hx hb dX12_agree_123 (by decide) ?_
                  refine lv_iconst (v := 2) hx hb dX12_agree_126 (by decide) ?_
                  refine lv_iload hx hb dX12_agree_127 (lv_at hl 1 rfl) ?_
                  refine q_imul (X := 2) hx hb dX12_agree_129 rfl rfl (by omega) (fun x222086 h222087 => ?_)
                  refine q_iadd (X := 1164) hx hb dX12_agree_130 rfl rfl (by omega) (fun x222088 h222089 => ?_)
                  refine lv_iconst (v := 1) hx hb dX12_agree_131 (by decide) ?_
                  refine q_iadd (Y := 1) hx hb dX12_agree_132 rfl rfl (by omega) (fun x222090 h222091 => ?_)
                  refine gl_822 E hW rR ⟨by omega, by omega⟩ dX12_agree_133 (fun y222092 m222093 b222094 => ?_)
                  refine u_imul hx hb dX12_agree_134 (fun x222095 => ?_)
                  refine u_iadd hx hb dX12_agree_135 (fun x222096 => ?_)
                  refine lv_istore (lv' := [(8, .int x222096), (7, .int x222079), (10, .int y221980), (9, .int y221982), (6, .int y215282), (5, .int y215284), (4, .int y215285), (3, .int y215286), (0, .ref h0), (1, .int u1), (2, .int u2)]) hx hb dX12_agree_136 hl (by decide) rfl (fun ls hl => ?_)
                  refine lv_iload hx hb dX12_agree_138 (lv_at hl 3 rfl) ?_
                  refine lv_iload hx hb dX12_agree_140 (lv_at hl 4 rfl) ?_
                  refine lv_iload hx hb dX12_agree_142 (lv_at hl 2 rfl) ?_
                  refine u_ishr hx hb dX12_agree_144 (fun x222097 => ?_)
                  refine lv_iconst (v := 1) hx hb dX12_agree_145 (by decide) ?_
                  refine q_iand (M := 1) (k := 1) hx hb dX12_agree_146 (by decide) (by decide) (by decide) (fun x222098 h222099 => ?_)
                  refine u_iadd hx hb dX12_agree_147 (fun x222100 => ?_)
                  refine lv_istore (lv' := [(9, .int x222100), (8, .int x222096), (7, .int x222079), (10, .int y221980), (6, .int y215282), (5, .int y215284), (4, .int y215285), (3, .int y215286), (0, .ref h0), (1, .int u1), (2, .int u2)]) hx hb dX12_agree_148 hl (by decide) rfl (fun ls hl => ?_)
                  refine q_iinc hx hb dX12_agree_150 hl (k := 3) rfl rfl rfl (by omega) (by decide) (fun i222101 ls h222102 hl => ?_)
                  have hl : lv_has ls 11 [(10, .int i222101), (9, .int x222100), (8, .int x222096), (7, .int x222079), (6, .int y215282), (5, .int y215284), (4, .int y215285), (3, .int y215286), (0, .ref h0), (1, .int u1), (2, .int u2)] := hl
                  refine lv_goto (tgt := 72) hx hb dX12_agree_153 (by decide) ?_
                  exact ih72 i222101 x222100 x222096 x222079 (by omega) (by omega) _ _ _ hW hF (lv_sub hl [0, 1, 2, 3, 4, 5, 6, 7, 8, 9, 10] rfl)
            have hk222103 : (0 : Int32).toInt = 0 := rfl
            have hk222104 : (0 : Int32).toInt = 0 := rfl
            have hk222105 : (0 : Int32).toInt = 0 := rfl
            have hk222106 : (0 : Int32).toInt = 0 := rfl
            exact L221985 10 0 0 0 0 (by decide) (by omega) _ _ _ hW hF (lv_sub hl [0, 1, 2, 3, 4, 5, 6, 7, 8, 9, 10] rfl)
      have hk222107 : (0 : Int32).toInt = 0 := rfl
      have hk222108 : (0 : Int32).toInt = 0 := rfl
      have hk222109 : (0 : Int32).toInt = 0 := rfl
      have hk222110 : ((-1) : Int32).toInt = -1 := rfl
      exact L215288 2147483648 0 0 0 (-1) (by decide) (by decide) (by omega) _ _ _ hW hF (lv_sub hl [0, 1, 2, 3, 4, 5, 6] rfl)
    · have q222111 : (x17.toInt < (-10000) ∨ 10000 < x17.toInt) := by omega
      clear p25
      refine lv_iconst (v := (-1)) hx hb dX12_agree_33 (by decide) ?_
      exact e_I E hW rfl ⟨⟨_, rfl, (by have hk : ((-1) : Int32).toInt = -1 := rfl; first | decide | omega)⟩, hF⟩ dX12_agree_34
def ms_X12_wish : List (Nat × Nat) := [(12, 0), (12, 1), (12, 41), (862, 0)]
def po_X12_wish (kp : Nat → Nat) (L : List Nat) (f0 : Nat → va_E) (h0 : Nat) (u1 : Int32) : Option Value → (Nat → va_E) → Prop := fun v f => (∃ r : Int32, v = some (.int r) ∧ (True)) ∧ FM kp L ms_X12_wish f0 f
set_option maxHeartbeats 4000000 in
set_option maxRecDepth 100000 in
theorem c_X12_wish (l : Launch) (G : va_G) (cI cJ cZ cD cR cT : ClassId) (kp : Nat → Nat) (L : List Nat) (f0 : Nat → va_E) (hTH : TH cI cJ cZ cD cR cT kp L f0) (sz : Nat) (h0 : Nat) (u1 : Int32) (rh0 : RK kp L h0 12) : Met l yX12_wish (Cond.code yX12_wish cX12_wish 3 (some .int) :: wTab) ({ frames := 3, cells := 0, slots := 0, locals := 86 }) (va_Pc [.ref h0, .int u1] (PreW G (tys6 cI cJ cZ cD cR cT) (va_pl L f0) sz)) (QT (po_X12_wish kp L f0 h0 u1) G cI cJ cZ cD cR cT (va_A (va_pl L f0) sz) kp L) 0 0 (va_A (va_pl L f0) sz) := by
  refine metT (by decide) (Nat.le_of_ble_eq_true rfl) hTH ?_
  intro p e s m below meth c A ls E hW hl
  obtain ⟨hx, hb, -, hml, hown, hts, -, -, -⟩ := id E
  have hF : FM kp L ms_X12_wish f0 f0 := FM.rf
  have hl : lv_has ls 3 [(0, .ref h0), (1, .int u1)] := hl
  obtain ⟨pR, mR⟩ : ∃ x : Nat, oR (f0 h0) 2 = x := ⟨_, rfl⟩
  have rR : RK kp L pR 822 := by rw [← mR]; exact th_ref hTH rh0 (by decide) (by decide) rfl
  refine lv_aload_n hx hb dX12_wish_0 rfl (lv_at hl 0 rfl) ?_
  refine lv_iconst (v := 0) hx hb dX12_wish_1 (by decide) ?_
  refine fp_RX12_82 E hW rh0 dX12_wish_2 (fun f1 H locs e2 n3 g4 hW => ?_)
  have hF := FM.tr hF g4 rfl
  refine lv_aload_n hx hb dX12_wish_5 rfl (lv_at hl 0 rfl) ?_
  refine lv_iload_n hx hb dX12_wish_6 rfl (lv_at hl 1 rfl) ?_
  refine t_callV (As := [.int u1]) (rest := []) E hW (c_X12_isField l G cI cJ cZ cD cR cT kp L f1 hW.2.2.2 _ h0 u1 rh0) rh0 (by decide) rfl wk_X12_isField tw_1639 rfl ⟨Nat.le_of_ble_eq_true rfl, Nat.le_of_ble_eq_true rfl⟩ ⟨rfl, rfl⟩ hl.1 rfl (Nat.le_of_ble_eq_true rfl) dX12_wish_7 ⟨Nat.le_of_ble_eq_true rfl, Nat.le_of_ble_eq_true rfl⟩ (fun v5 f6 H locs q7 hW => ?_)
  obtain ⟨⟨x9, rfl, p10⟩, g8⟩ := q7
  have hF := FM.tr hF g8 rfl
  refine q_if_ne (tgt := 20) hx hb dX12_wish_10 (by decide) rfl (fun c11 => ?_) (fun c11 => ?_)
  · have q12 : 0 ≤ u1.toInt ∧ u1.toInt ≤ 39 := by omega
    clear p10
    refine lv_aload_n hx hb dX12_wish_20 rfl (lv_at hl 0 rfl) ?_
    refine fg_RX12_8 E hW rh0 dX12_wish_21 (fun a13 m14 r15 => ?_)
    obtain rfl : pR = a13 := (((fm_R g8 rh0 rfl).trans ((fm_R g4 rh0 rfl).trans mR))).symm.trans m14
    refine lv_iload_n hx hb dX12_wish_24 rfl (lv_at hl 1 rfl) ?_
    refine t_callS (As := [.int u1]) (rest := [.ref pR]) E hW (c_X12_fieldAt l G cI cJ cZ cD cR cT kp L f6 hW.2.2.2 _ u1 (by omega)) wk_X12_fieldAt tw_1624 rfl ⟨Nat.le_of_ble_eq_true rfl, Nat.le_of_ble_eq_true rfl⟩ ⟨rfl, rfl⟩ hl.1 rfl (Nat.le_of_ble_eq_true rfl) dX12_wish_25 ⟨Nat.le_of_ble_eq_true rfl, Nat.le_of_ble_eq_true rfl⟩ (fun v16 f17 H locs q18 hW => ?_)
    obtain ⟨⟨x20, rfl, p21⟩, g19⟩ := q18
    have hF := FM.tr hF g19 rfl
    refine lv_iconst (v := 3) hx hb dX12_wish_28 (by decide) ?_
    refine q_iadd (Y := 3) hx hb dX12_wish_29 rfl rfl (by omega) (fun x22 h23 => ?_)
    refine gl_822 E hW rR ⟨by omega, by omega⟩ dX12_wish_30 (fun y24 m25 b26 => ?_)
    have b27 := rr_fhol (show RowInv _ from b26) m25 (by omega)
    refine lv_iconst (v := (-1)) hx hb dX12_wish_31 (by decide) ?_
    refine q_icmp_ne (Y := -1) (tgt := 42) hx hb dX12_wish_32 (by decide) rfl rfl (fun c28 => ?_) (fun c28 => ?_)
    · refine lv_iconst (v := 0) hx hb dX12_wish_42 (by decide) ?_
      refine lv_istore_n (lv' := [(2, .int 0), (0, .ref h0), (1, .int u1)]) hx hb dX12_wish_43 rfl hl (by decide) rfl (fun ls hl => ?_)
      have L202 : ∀ (n : Nat), ∀ (f197 : Nat → va_E) (y200 : Int32) (m198 : oI (f197 h0) 0 = 0) (m199 : oR (f197 h0) 2 = pR) (b201 : (0 : Int) ≤ y200.toInt ∧ y200.toInt ≤ 6) (hm : (7 : Int) - y200.toInt ≤ n) (H : Heap) (locs : List Loc) (ls : Array Slot), WS G cI cJ cZ cD cR cT A kp L f197 s H locs → FM kp L ms_X12_wish f0 f197 → lv_has ls 3 [(2, .int y200), (0, .ref h0), (1, .int u1)] → W p l e ({ frames := 3, cells := 0, slots := 0, locals := 86 }) s m ([.ref h0, .int u1] : List Value).toArray below meth c H locs 0 0 (MQ below (QT (po_X12_wish kp L f0 h0 u1) G cI cJ cZ cD cR cT A kp L) ([.ref h0, .int u1] : List Value).toArray s 0 0 A) (F0 m 44 ls []) := by
        intro n
        induction n with
        | zero =>
          intro f197 y200 m198 m199 b201 hm H locs ls hW hF hl
          have hz := i32_b y200
          exfalso; omega
        | succ n ih =>
          intro f197 y200 m198 m199 b201 hm H locs ls hW hF hl
          clear c11 b27 c28
          have ih44 := ih
          refine lv_iload_n hx hb dX12_wish_44 rfl (lv_at hl 0 rfl) ?_
          refine lv_aload_n hx hb dX12_wish_45 rfl (lv_at hl 1 rfl) ?_
          refine fg_RX12_446 E hW rh0 dX12_wish_46 (fun y203 m204 b205 => ?_)
          refine q_icmp_ge (tgt := 75) hx hb dX12_wish_49 (by decide) rfl rfl (fun c206 => ?_) (fun c206 => ?_)
          · refine lv_aload_n hx hb dX12_wish_75 rfl (lv_at hl 1 rfl) ?_
            refine fg_RX12_446 E hW rh0 dX12_wish_76 (fun y207 m208 b209 => ?_)
            obtain rfl : y203 = y207 := (m204).symm.trans m208
            refine lv_bipush (v := 6) hx hb dX12_wish_79 (by decide) ?_
            refine q_icmp_ne (Y := 6) (tgt := 91) hx hb dX12_wish_81 (by decide) rfl rfl (fun c210 => ?_) (fun c210 => ?_)
            · refine lv_aload_n hx hb dX12_wish_91 rfl (lv_at hl 1 rfl) ?_
              refine fg_RX12_73 E hW rh0 dX12_wish_92 (fun a211 m212 r213 => ?_)
              refine lv_aload_n hx hb dX12_wish_95 rfl (lv_at hl 1 rfl) ?_
              refine fg_RX12_446 E hW rh0 dX12_wish_96 (fun y214 m215 b216 => ?_)
              obtain rfl : y203 = y214 := (m208).symm.trans m215
              refine lv_iload_n hx hb dX12_wish_99 rfl (lv_at hl 2 rfl) ?_
              refine gs_862 E hW r213 ⟨by omega, by omega⟩ (by omega) dX12_wish_100 (fun f217 H locs e218 n219 g220 hW => ?_)
              have hF := FM.tr hF g220 rfl
              refine lv_aload_n hx hb dX12_wish_101 rfl (lv_at hl 1 rfl) ?_
              refine lv_dup hx hb dX12_wish_102 rfl ?_
              refine fg_RX12_446 E hW rh0 dX12_wish_103 (fun y221 m222 b223 => ?_)
              obtain rfl : y203 = y221 := (((fm_I g220 rh0 rfl).trans m215)).symm.trans m222
              refine lv_iconst (v := 1) hx hb dX12_wish_106 (by decide) ?_
              refine q_iadd (Y := 1) hx hb dX12_wish_107 rfl rfl (by omega) (fun x224 h225 => ?_)
              refine fp_RX12_446 E hW rh0 (by omega) dX12_wish_108 (fun f226 H locs e227 n228 g229 hW => ?_)
              have m230 : aI (f226 a211) (y203 : Int32).toNatClampNeg = u1 := ((congrArg (fun z => aI z (y203 : Int32).toNatClampNeg) (fm_A g229 r213 (by decide) rfl)).trans (show aI (f217 a211) (y203 : Int32).toNatClampNeg = u1 from by rw [e218]; exact up_s))
              have hF := FM.tr hF g229 rfl
              refine lv_aload_n hx hb dX12_wish_111 rfl (lv_at hl 1 rfl) ?_
              refine lv_aload_n hx hb dX12_wish_112 rfl (lv_at hl 1 rfl) ?_
              refine fg_RX12_446 E hW rh0 dX12_wish_113 (fun y231 m232 b233 => ?_)
              obtain rfl : x224 = y231 := (e227).symm.trans m232
              refine t_callV (As := [.int x224]) (rest := []) E hW (c_X12_told l G cI cJ cZ cD cR cT kp L f226 hW.2.2.2 _ h0 x224 rh0) rh0 (by decide) rfl wk_X12_told tw_1557 rfl ⟨Nat.le_of_ble_eq_true rfl, Nat.le_of_ble_eq_true rfl⟩ ⟨rfl, rfl⟩ hl.1 rfl (Nat.le_of_ble_eq_true rfl) dX12_wish_116 ⟨Nat.le_of_ble_eq_true rfl, Nat.le_of_ble_eq_true rfl⟩ (fun v234 f235 H locs q236 hW => ?_)
              obtain ⟨⟨x238, rfl, p239⟩, g237⟩ := q236
              clear p239
              have hF := FM.tr hF g237 rfl
              exact e_I E hW rfl ⟨⟨_, rfl, trivial⟩, hF⟩ dX12_wish_119
            · refine lv_aload_n hx hb dX12_wish_84 rfl (lv_at hl 1 rfl) ?_
              refine lv_bipush (v := (-5)) hx hb dX12_wish_85 (by decide) ?_
              refine t_callV (As := [.int (-5)]) (rest := []) E hW (c_X12_told l G cI cJ cZ cD cR cT kp L f197 hW.2.2.2 _ h0 (-5) rh0) rh0 (by decide) rfl wk_X12_told tw_1557 rfl ⟨Nat.le_of_ble_eq_true rfl, Nat.le_of_ble_eq_true rfl⟩ ⟨rfl, rfl⟩ hl.1 rfl (Nat.le_of_ble_eq_true rfl) dX12_wish_87 ⟨Nat.le_of_ble_eq_true rfl, Nat.le_of_ble_eq_true rfl⟩ (fun v240 f241 H locs q242 hW => ?_)
              obtain ⟨⟨x244, rfl, p245⟩, g243⟩ := q242
              clear p245
              have hF := FM.tr hF g243 rfl
              exact e_I E hW rfl ⟨⟨_, rfl, trivial⟩, hF⟩ dX12_wish_90
          · refine lv_aload_n hx hb dX12_wish_52 rfl (lv_at hl 1 rfl) ?_
            refine fg_RX12_73 E hW rh0 dX12_wish_53 (fun a246 m247 r248 => ?_)
            refine lv_iload_n hx hb dX12_wish_56 rfl (lv_at hl 0 rfl) ?_
            refine gl_862 E hW r248 ⟨by omega, by omega⟩ dX12_wish_57 (fun y249 m250 b251 => ?_)
            refine lv_iload_n hx hb dX12_wish_58 rfl (lv_at hl 2 rfl) ?_
            refine q_icmp_ne (tgt := 69) hx hb dX12_wish_59 (by decide) rfl rfl (fun c252 => ?_) (fun c252 => ?_)
            · refine q_iinc hx hb dX12_wish_69 hl (k := 0) rfl rfl rfl (by omega) (by decide) (fun i253 ls h254 hl => ?_)
              have hl : lv_has ls 3 [(2, .int i253), (0, .ref h0), (1, .int u1)] := hl
              refine lv_goto (tgt := 44) hx hb dX12_wish_72 (by decide) ?_
              exact ih44 f197 i253 m198 m199 (by omega) (by omega) _ _ _ hW hF (lv_sub hl [0, 1, 2] rfl)
            · refine lv_aload_n hx hb dX12_wish_62 rfl (lv_at hl 1 rfl) ?_
              refine lv_bipush (v := (-4)) hx hb dX12_wish_63 (by decide) ?_
              refine t_callV (As := [.int (-4)]) (rest := []) E hW (c_X12_told l G cI cJ cZ cD cR cT kp L f197 hW.2.2.2 _ h0 (-4) rh0) rh0 (by decide) rfl wk_X12_told tw_1557 rfl ⟨Nat.le_of_ble_eq_true rfl, Nat.le_of_ble_eq_true rfl⟩ ⟨rfl, rfl⟩ hl.1 rfl (Nat.le_of_ble_eq_true rfl) dX12_wish_65 ⟨Nat.le_of_ble_eq_true rfl, Nat.le_of_ble_eq_true rfl⟩ (fun v255 f256 H locs q257 hW => ?_)
              obtain ⟨⟨x259, rfl, p260⟩, g258⟩ := q257
              clear p260
              have hF := FM.tr hF g258 rfl
              exact e_I E hW rfl ⟨⟨_, rfl, trivial⟩, hF⟩ dX12_wish_68
      have hk261 : (0 : Int32).toInt = 0 := rfl
      exact L202 7 f17 0 ((fm_I g19 rh0 rfl).trans ((fm_I g8 rh0 rfl).trans e2)) ((fm_R g19 rh0 rfl).trans m14) (by decide) (by omega) _ _ _ hW hF (lv_sub hl [0, 1, 2] rfl)
    · refine lv_aload_n hx hb dX12_wish_35 rfl (lv_at hl 0 rfl) ?_
      refine lv_bipush (v := (-3)) hx hb dX12_wish_36 (by decide) ?_
      refine t_callV (As := [.int (-3)]) (rest := []) E hW (c_X12_told l G cI cJ cZ cD cR cT kp L f17 hW.2.2.2 _ h0 (-3) rh0) rh0 (by decide) rfl wk_X12_told tw_1557 rfl ⟨Nat.le_of_ble_eq_true rfl, Nat.le_of_ble_eq_true rfl⟩ ⟨rfl, rfl⟩ hl.1 rfl (Nat.le_of_ble_eq_true rfl) dX12_wish_38 ⟨Nat.le_of_ble_eq_true rfl, Nat.le_of_ble_eq_true rfl⟩ (fun v262 f263 H locs q264 hW => ?_)
      obtain ⟨⟨x266, rfl, p267⟩, g265⟩ := q264
      clear p267
      have hF := FM.tr hF g265 rfl
      exact e_I E hW rfl ⟨⟨_, rfl, trivial⟩, hF⟩ dX12_wish_41
  · clear p10
    refine lv_aload_n hx hb dX12_wish_13 rfl (lv_at hl 0 rfl) ?_
    refine lv_bipush (v := (-2)) hx hb dX12_wish_14 (by decide) ?_
    refine t_callV (As := [.int (-2)]) (rest := []) E hW (c_X12_told l G cI cJ cZ cD cR cT kp L f6 hW.2.2.2 _ h0 (-2) rh0) rh0 (by decide) rfl wk_X12_told tw_1557 rfl ⟨Nat.le_of_ble_eq_true rfl, Nat.le_of_ble_eq_true rfl⟩ ⟨rfl, rfl⟩ hl.1 rfl (Nat.le_of_ble_eq_true rfl) dX12_wish_16 ⟨Nat.le_of_ble_eq_true rfl, Nat.le_of_ble_eq_true rfl⟩ (fun v268 f269 H locs q270 hW => ?_)
    obtain ⟨⟨x272, rfl, p273⟩, g271⟩ := q270
    clear p273
    have hF := FM.tr hF g271 rfl
    exact e_I E hW rfl ⟨⟨_, rfl, trivial⟩, hF⟩ dX12_wish_19
def ms_X12_clear : List (Nat × Nat) := [(12, 0), (12, 41), (12, 43)]
def po_X12_clear (kp : Nat → Nat) (L : List Nat) (f0 : Nat → va_E) (h0 : Nat) : Option Value → (Nat → va_E) → Prop := fun v f => (∃ r : Int32, v = some (.int r) ∧ ((0 : Int) ≤ r.toInt ∧ r.toInt ≤ 6)) ∧ FM kp L ms_X12_clear f0 f
set_option maxHeartbeats 4000000 in
set_option maxRecDepth 100000 in
theorem c_X12_clear (l : Launch) (G : va_G) (cI cJ cZ cD cR cT : ClassId) (kp : Nat → Nat) (L : List Nat) (f0 : Nat → va_E) (hTH : TH cI cJ cZ cD cR cT kp L f0) (sz : Nat) (h0 : Nat) (rh0 : RK kp L h0 12) : Met l yX12_clear (Cond.code yX12_clear cX12_clear 2 (some .int) :: wTab) ({ frames := 1, cells := 0, slots := 0, locals := 40 }) (va_Pc [.ref h0] (PreW G (tys6 cI cJ cZ cD cR cT) (va_pl L f0) sz)) (QT (po_X12_clear kp L f0 h0) G cI cJ cZ cD cR cT (va_A (va_pl L f0) sz) kp L) 0 0 (va_A (va_pl L f0) sz) := by
  refine metT (by decide) (Nat.le_of_ble_eq_true rfl) hTH ?_
  intro p e s m below meth c A ls E hW hl
  obtain ⟨hx, hb, -, hml, hown, hts, -, -, -⟩ := id E
  have hF : FM kp L ms_X12_clear f0 f0 := FM.rf
  have hl : lv_has ls 2 [(0, .ref h0)] := hl
  obtain ⟨pR, mR⟩ : ∃ x : Nat, oR (f0 h0) 2 = x := ⟨_, rfl⟩
  have rR : RK kp L pR 822 := by rw [← mR]; exact th_ref hTH rh0 (by decide) (by decide) rfl
  refine lv_aload_n hx hb dX12_clear_0 rfl (lv_at hl 0 rfl) ?_
  refine lv_iconst (v := 0) hx hb dX12_clear_1 (by decide) ?_
  refine fp_RX12_82 E hW rh0 dX12_clear_2 (fun f1 H locs e2 n3 g4 hW => ?_)
  have hF := FM.tr hF g4 rfl
  refine lv_aload_n hx hb dX12_clear_5 rfl (lv_at hl 0 rfl) ?_
  refine fg_RX12_446 E hW rh0 dX12_clear_6 (fun y5 m6 b7 => ?_)
  refine lv_istore_n (lv' := [(1, .int y5), (0, .ref h0)]) hx hb dX12_clear_9 rfl hl (by decide) rfl (fun ls hl => ?_)
  refine lv_aload_n hx hb dX12_clear_10 rfl (lv_at hl 1 rfl) ?_
  refine lv_iconst (v := 0) hx hb dX12_clear_11 (by decide) ?_
  refine fp_RX12_446 E hW rh0 (by decide) dX12_clear_12 (fun f8 H locs e9 n10 g11 hW => ?_)
  have hF := FM.tr hF g11 rfl
  refine lv_aload_n hx hb dX12_clear_15 rfl (lv_at hl 1 rfl) ?_
  refine lv_iconst (v := 0) hx hb dX12_clear_16 (by decide) ?_
  refine fp_RX12_504 E hW rh0 (by decide) dX12_clear_17 (fun f12 H locs e13 n14 g15 hW => ?_)
  have hF := FM.tr hF g15 rfl
  refine lv_iload_n hx hb dX12_clear_20 rfl (lv_at hl 0 rfl) ?_
  exact e_I E hW rfl ⟨⟨_, rfl, (by first | omega | trivial)⟩, hF⟩ dX12_clear_21
def ms_X12_crops : List (Nat × Nat) := [(12, 0), (12, 1), (12, 43), (864, 0), (865, 0)]
def po_X12_crops (kp : Nat → Nat) (L : List Nat) (f0 : Nat → va_E) (h0 : Nat) (u1 : Int32) (u2 : Int32) : Option Value → (Nat → va_E) → Prop := fun v f => (∃ r : Int32, v = some (.int r) ∧ (True)) ∧ FM kp L ms_X12_crops f0 f
set_option maxHeartbeats 4000000 in
set_option maxRecDepth 100000 in
theorem c_X12_crops (l : Launch) (G : va_G) (cI cJ cZ cD cR cT : ClassId) (kp : Nat → Nat) (L : List Nat) (f0 : Nat → va_E) (hTH : TH cI cJ cZ cD cR cT kp L f0) (sz : Nat) (h0 : Nat) (u1 : Int32) (u2 : Int32) (rh0 : RK kp L h0 12) : Met l yX12_crops (Cond.code yX12_crops cX12_crops 3 (some .int) :: wTab) ({ frames := 2, cells := 0, slots := 0, locals := 65 }) (va_Pc [.ref h0, .int u1, .int u2] (PreW G (tys6 cI cJ cZ cD cR cT) (va_pl L f0) sz)) (QT (po_X12_crops kp L f0 h0 u1 u2) G cI cJ cZ cD cR cT (va_A (va_pl L f0) sz) kp L) 0 0 (va_A (va_pl L f0) sz) := by
  refine metT (by decide) (Nat.le_of_ble_eq_true rfl) hTH ?_
  intro p e s m below meth c A ls E hW hl
  obtain ⟨hx, hb, -, hml, hown, hts, -, -, -⟩ := id E
  have hF : FM kp L ms_X12_crops f0 f0 := FM.rf
  have hl : lv_has ls 3 [(0, .ref h0), (1, .int u1), (2, .int u2)] := hl
  obtain ⟨pR, mR⟩ : ∃ x : Nat, oR (f0 h0) 2 = x := ⟨_, rfl⟩
  have rR : RK kp L pR 822 := by rw [← mR]; exact th_ref hTH rh0 (by decide) (by decide) rfl
  refine lv_aload_n hx hb dX12_crops_0 rfl (lv_at hl 0 rfl) ?_
  refine lv_iconst (v := 0) hx hb dX12_crops_1 (by decide) ?_
  refine fp_RX12_82 E hW rh0 dX12_crops_2 (fun f1 H locs e2 n3 g4 hW => ?_)
  have hF := FM.tr hF g4 rfl
  refine lv_iload_n hx hb dX12_crops_5 rfl (lv_at hl 1 rfl) ?_
  refine q_i2l hx hb dX12_crops_6 rfl (fun x5 h6 => ?_)
  have hb7 : -2147483648 ≤ x5.toInt ∧ x5.toInt ≤ 2147483647 := by have := i32_b u1; omega
  refine lv_lconst (v := 0) hx hb dX12_crops_7 (by decide) ?_
  refine lv_ldc2 (v := 10000) hx hb hown (hts _ tw_1723) dX12_crops_8 ?_
  refine t_callS (As := [.long x5, .long 0, .long 10000]) (rest := []) E hW (c_X12_in l G cI cJ cZ cD cR cT kp L f1 hW.2.2.2 _ x5 0 10000) wk_X12_in tw_1554 rfl ⟨Nat.le_of_ble_eq_true rfl, Nat.le_of_ble_eq_true rfl⟩ ⟨rfl, rfl⟩ hl.1 rfl (Nat.le_of_ble_eq_true rfl) dX12_crops_11 ⟨Nat.le_of_ble_eq_true rfl, Nat.le_of_ble_eq_true rfl⟩ (fun v8 f9 H locs q10 hW => ?_)
  obtain ⟨⟨x12, rfl, p13⟩, g11⟩ := q10
  have p13 : (x12.toInt = 1 ∧ 0 ≤ x5.toInt ∧ x5.toInt ≤ 10000) ∨ (x12.toInt = 0 ∧ (x5.toInt < 0 ∨ 10000 < x5.toInt)) := p13
  have hF := FM.tr hF g11 rfl
  refine q_if_eq (tgt := 29) hx hb dX12_crops_14 (by decide) rfl (fun c14 => ?_) (fun c14 => ?_)
  · have q15 : (x5.toInt < 0 ∨ 10000 < x5.toInt) := by omega
    clear p13
    refine lv_aload_n hx hb dX12_crops_29 rfl (lv_at hl 0 rfl) ?_
    refine lv_iconst (v := (-1)) hx hb dX12_crops_30 (by decide) ?_
    refine t_callV (As := [.int (-1)]) (rest := []) E hW (c_X12_told l G cI cJ cZ cD cR cT kp L f9 hW.2.2.2 _ h0 (-1) rh0) rh0 (by decide) rfl wk_X12_told tw_1557 rfl ⟨Nat.le_of_ble_eq_true rfl, Nat.le_of_ble_eq_true rfl⟩ ⟨rfl, rfl⟩ hl.1 rfl (Nat.le_of_ble_eq_true rfl) dX12_crops_31 ⟨Nat.le_of_ble_eq_true rfl, Nat.le_of_ble_eq_true rfl⟩ (fun v16 f17 H locs q18 hW => ?_)
    obtain ⟨⟨x20, rfl, p21⟩, g19⟩ := q18
    clear p21
    have hF := FM.tr hF g19 rfl
    exact e_I E hW rfl ⟨⟨_, rfl, trivial⟩, hF⟩ dX12_crops_34
  · have q22 : 0 ≤ x5.toInt ∧ x5.toInt ≤ 10000 := by omega
    clear p13
    refine lv_iload_n hx hb dX12_crops_17 rfl (lv_at hl 2 rfl) ?_
    refine q_i2l hx hb dX12_crops_18 rfl (fun x23 h24 => ?_)
    have hb25 : -2147483648 ≤ x23.toInt ∧ x23.toInt ≤ 2147483647 := by have := i32_b u2; omega
    refine lv_lconst (v := 0) hx hb dX12_crops_19 (by decide) ?_
    refine lv_ldc2 (v := 10000) hx hb hown (hts _ tw_1723) dX12_crops_20 ?_
    refine t_callS (As := [.long x23, .long 0, .long 10000]) (rest := []) E hW (c_X12_in l G cI cJ cZ cD cR cT kp L f9 hW.2.2.2 _ x23 0 10000) wk_X12_in tw_1554 rfl ⟨Nat.le_of_ble_eq_true rfl, Nat.le_of_ble_eq_true rfl⟩ ⟨rfl, rfl⟩ hl.1 rfl (Nat.le_of_ble_eq_true rfl) dX12_crops_23 ⟨Nat.le_of_ble_eq_true rfl, Nat.le_of_ble_eq_true rfl⟩ (fun v26 f27 H locs q28 hW => ?_)
    obtain ⟨⟨x30, rfl, p31⟩, g29⟩ := q28
    have p31 : (x30.toInt = 1 ∧ 0 ≤ x23.toInt ∧ x23.toInt ≤ 10000) ∨ (x30.toInt = 0 ∧ (x23.toInt < 0 ∨ 10000 < x23.toInt)) := p31
    have hF := FM.tr hF g29 rfl
    refine q_if_ne (tgt := 35) hx hb dX12_crops_26 (by decide) rfl (fun c32 => ?_) (fun c32 => ?_)
    · have q33 : 0 ≤ x23.toInt ∧ x23.toInt ≤ 10000 := by omega
      clear p31
      refine lv_aload_n hx hb dX12_crops_35 rfl (lv_at hl 0 rfl) ?_
      refine fg_RX12_504 E hW rh0 dX12_crops_36 (fun y34 m35 b36 => ?_)
      refine lv_iconst (v := 3) hx hb dX12_crops_39 (by decide) ?_
      refine q_icmp_ne (Y := 3) (tgt := 50) hx hb dX12_crops_40 (by decide) rfl rfl (fun c37 => ?_) (fun c37 => ?_)
      · refine lv_aload_n hx hb dX12_crops_50 rfl (lv_at hl 0 rfl) ?_
        refine fg_RX12_76 E hW rh0 dX12_crops_51 (fun a38 m39 r40 => ?_)
        refine lv_aload_n hx hb dX12_crops_54 rfl (lv_at hl 0 rfl) ?_
        refine fg_RX12_504 E hW rh0 dX12_crops_55 (fun y41 m42 b43 => ?_)
        obtain rfl : y34 = y41 := (m35).symm.trans m42
        refine lv_iload_n hx hb dX12_crops_58 rfl (lv_at hl 1 rfl) ?_
        refine gs_864 E hW r40 ⟨by omega, by omega⟩ dX12_crops_59 (fun f44 H locs e45 n46 g47 hW => ?_)
        have hF := FM.tr hF g47 rfl
        refine lv_aload_n hx hb dX12_crops_60 rfl (lv_at hl 0 rfl) ?_
        refine fg_RX12_79 E hW rh0 dX12_crops_61 (fun a48 m49 r50 => ?_)
        refine lv_aload_n hx hb dX12_crops_64 rfl (lv_at hl 0 rfl) ?_
        refine fg_RX12_504 E hW rh0 dX12_crops_65 (fun y51 m52 b53 => ?_)
        obtain rfl : y34 = y51 := (((fm_I g47 rh0 rfl).trans m42)).symm.trans m52
        refine lv_iload_n hx hb dX12_crops_68 rfl (lv_at hl 2 rfl) ?_
        refine gs_865 E hW r50 ⟨by omega, by omega⟩ dX12_crops_69 (fun f54 H locs e55 n56 g57 hW => ?_)
        have hF := FM.tr hF g57 rfl
        refine lv_aload_n hx hb dX12_crops_70 rfl (lv_at hl 0 rfl) ?_
        refine lv_dup hx hb dX12_crops_71 rfl ?_
        refine fg_RX12_504 E hW rh0 dX12_crops_72 (fun y58 m59 b60 => ?_)
        obtain rfl : y34 = y58 := (((fm_I g57 rh0 rfl).trans m52)).symm.trans m59
        refine lv_iconst (v := 1) hx hb dX12_crops_75 (by decide) ?_
        refine q_iadd (Y := 1) hx hb dX12_crops_76 rfl rfl (by omega) (fun x61 h62 => ?_)
        refine fp_RX12_504 E hW rh0 (by omega) dX12_crops_77 (fun f63 H locs e64 n65 g66 hW => ?_)
        have m67 : aI (f63 a38) (y34 : Int32).toNatClampNeg = u1 := ((congrArg (fun z => aI z (y34 : Int32).toNatClampNeg) (fm_A g66 r40 (by decide) rfl)).trans ((congrArg (fun z => aI z (y34 : Int32).toNatClampNeg) (fm_A g57 r40 (by decide) rfl)).trans (show aI (f44 a38) (y34 : Int32).toNatClampNeg = u1 from by rw [e45]; exact up_s)))
        have hF := FM.tr hF g66 rfl
        refine lv_aload_n hx hb dX12_crops_80 rfl (lv_at hl 0 rfl) ?_
        refine lv_aload_n hx hb dX12_crops_81 rfl (lv_at hl 0 rfl) ?_
        refine fg_RX12_504 E hW rh0 dX12_crops_82 (fun y68 m69 b70 => ?_)
        obtain rfl : x61 = y68 := (e64).symm.trans m69
        refine t_callV (As := [.int x61]) (rest := []) E hW (c_X12_told l G cI cJ cZ cD cR cT kp L f63 hW.2.2.2 _ h0 x61 rh0) rh0 (by decide) rfl wk_X12_told tw_1557 rfl ⟨Nat.le_of_ble_eq_true rfl, Nat.le_of_ble_eq_true rfl⟩ ⟨rfl, rfl⟩ hl.1 rfl (Nat.le_of_ble_eq_true rfl) dX12_crops_85 ⟨Nat.le_of_ble_eq_true rfl, Nat.le_of_ble_eq_true rfl⟩ (fun v71 f72 H locs q73 hW => ?_)
        obtain ⟨⟨x75, rfl, p76⟩, g74⟩ := q73
        clear p76
        have m77 : oR (f72 h0) 2 = pR := ((fm_R g74 rh0 rfl).trans ((fm_R g66 rh0 rfl).trans ((fm_R g57 rh0 rfl).trans ((fm_R g47 rh0 rfl).trans ((fm_R g29 rh0 rfl).trans ((fm_R g11 rh0 rfl).trans ((fm_R g4 rh0 rfl).trans mR)))))))
        have m78 : aI (f72 a48) (y34 : Int32).toNatClampNeg = u2 := ((congrArg (fun z => aI z (y34 : Int32).toNatClampNeg) (fm_A g74 r50 (by decide) rfl)).trans ((congrArg (fun z => aI z (y34 : Int32).toNatClampNeg) (fm_A g66 r50 (by decide) rfl)).trans (show aI (f54 a48) (y34 : Int32).toNatClampNeg = u2 from by rw [e55]; exact up_s)))
        have hF := FM.tr hF g74 rfl
        exact e_I E hW rfl ⟨⟨_, rfl, trivial⟩, hF⟩ dX12_crops_88
      · refine lv_aload_n hx hb dX12_crops_43 rfl (lv_at hl 0 rfl) ?_
        refine lv_bipush (v := (-5)) hx hb dX12_crops_44 (by decide) ?_
        refine t_callV (As := [.int (-5)]) (rest := []) E hW (c_X12_told l G cI cJ cZ cD cR cT kp L f27 hW.2.2.2 _ h0 (-5) rh0) rh0 (by decide) rfl wk_X12_told tw_1557 rfl ⟨Nat.le_of_ble_eq_true rfl, Nat.le_of_ble_eq_true rfl⟩ ⟨rfl, rfl⟩ hl.1 rfl (Nat.le_of_ble_eq_true rfl) dX12_crops_46 ⟨Nat.le_of_ble_eq_true rfl, Nat.le_of_ble_eq_true rfl⟩ (fun v79 f80 H locs q81 hW => ?_)
        obtain ⟨⟨x83, rfl, p84⟩, g82⟩ := q81
        clear p84
        have hF := FM.tr hF g82 rfl
        exact e_I E hW rfl ⟨⟨_, rfl, trivial⟩, hF⟩ dX12_crops_49
    · have q85 : (x23.toInt < 0 ∨ 10000 < x23.toInt) := by omega
      clear p31
      refine lv_aload_n hx hb dX12_crops_29 rfl (lv_at hl 0 rfl) ?_
      refine lv_iconst (v := (-1)) hx hb dX12_crops_30 (by decide) ?_
      refine t_callV (As := [.int (-1)]) (rest := []) E hW (c_X12_told l G cI cJ cZ cD cR cT kp L f27 hW.2.2.2 _ h0 (-1) rh0) rh0 (by decide) rfl wk_X12_told tw_1557 rfl ⟨Nat.le_of_ble_eq_true rfl, Nat.le_of_ble_eq_true rfl⟩ ⟨rfl, rfl⟩ hl.1 rfl (Nat.le_of_ble_eq_true rfl) dX12_crops_31 ⟨Nat.le_of_ble_eq_true rfl, Nat.le_of_ble_eq_true rfl⟩ (fun v86 f87 H locs q88 hW => ?_)
      obtain ⟨⟨x90, rfl, p91⟩, g89⟩ := q88
      clear p91
      have hF := FM.tr hF g89 rfl
      exact e_I E hW rfl ⟨⟨_, rfl, trivial⟩, hF⟩ dX12_crops_34
def ms_X12_isSpan : List (Nat × Nat) := []
def po_X12_isSpan (kp : Nat → Nat) (L : List Nat) (f0 : Nat → va_E) (h0 : Nat) (u1 : Int32) : Option Value → (Nat → va_E) → Prop := fun v f => (∃ r : Int32, v = some (.int r) ∧ ((r.toInt = 1 ∧ 1 ≤ u1.toInt ∧ u1.toInt ≤ 104 ∧ (aI (f0 (oR (f0 h0) 2)) (8 : Int32).toNatClampNeg).toInt + u1.toInt ≤ 399) ∨ r.toInt = 0)) ∧ FM kp L ms_X12_isSpan f0 f
set_option maxHeartbeats 4000000 in
set_option maxRecDepth 100000 in
theorem c_X12_isSpan (l : Launch) (G : va_G) (cI cJ cZ cD cR cT : ClassId) (kp : Nat → Nat) (L : List Nat) (f0 : Nat → va_E) (hTH : TH cI cJ cZ cD cR cT kp L f0) (sz : Nat) (h0 : Nat) (u1 : Int32) (rh0 : RK kp L h0 12) : Met l yX12_isSpan (Cond.code yX12_isSpan cX12_isSpan 2 (some .boolean) :: wTab) ({ frames := 2, cells := 0, slots := 0, locals := 65 }) (va_Pc [.ref h0, .int u1] (PreW G (tys6 cI cJ cZ cD cR cT) (va_pl L f0) sz)) (QT (po_X12_isSpan kp L f0 h0 u1) G cI cJ cZ cD cR cT (va_A (va_pl L f0) sz) kp L) 0 0 (va_A (va_pl L f0) sz) := by
  refine metT (by decide) (Nat.le_of_ble_eq_true rfl) hTH ?_
  intro p e s m below meth c A ls E hW hl
  obtain ⟨hx, hb, -, hml, hown, hts, -, -, -⟩ := id E
  have hF : FM kp L ms_X12_isSpan f0 f0 := FM.rf
  have hl : lv_has ls 2 [(0, .ref h0), (1, .int u1)] := hl
  obtain ⟨pR, mR⟩ : ∃ x : Nat, oR (f0 h0) 2 = x := ⟨_, rfl⟩
  have rR : RK kp L pR 822 := by rw [← mR]; exact th_ref hTH rh0 (by decide) (by decide) rfl
  obtain ⟨p8, mp8⟩ : ∃ x : Int32, aI (f0 pR) (8 : Int32).toNatClampNeg = x := ⟨_, rfl⟩
  have hr8 : (0 : Int) ≤ p8.toInt ∧ p8.toInt ≤ 399 := rr_8 (th_row hTH rR) mp8 rfl
  refine lv_iload_n hx hb dX12_isSpan_0 rfl (lv_at hl 1 rfl) ?_
  refine q_i2l hx hb dX12_isSpan_1 rfl (fun x1 h2 => ?_)
  have hb3 : -2147483648 ≤ x1.toInt ∧ x1.toInt ≤ 2147483647 := by have := i32_b u1; omega
  refine lv_lconst (v := 1) hx hb dX12_isSpan_2 (by decide) ?_
  refine lv_ldc2 (v := 104) hx hb hown (hts _ tw_1917) dX12_isSpan_3 ?_
  refine t_callS (As := [.long x1, .long 1, .long 104]) (rest := []) E hW (c_X12_in l G cI cJ cZ cD cR cT kp L f0 hW.2.2.2 _ x1 1 104) wk_X12_in tw_1554 rfl ⟨Nat.le_of_ble_eq_true rfl, Nat.le_of_ble_eq_true rfl⟩ ⟨rfl, rfl⟩ hl.1 rfl (Nat.le_of_ble_eq_true rfl) dX12_isSpan_6 ⟨Nat.le_of_ble_eq_true rfl, Nat.le_of_ble_eq_true rfl⟩ (fun v4 f5 H locs q6 hW => ?_)
  obtain ⟨⟨x8, rfl, p9⟩, g7⟩ := q6
  have p9 : (x8.toInt = 1 ∧ 1 ≤ x1.toInt ∧ x1.toInt ≤ 104) ∨ (x8.toInt = 0 ∧ (x1.toInt < 1 ∨ 104 < x1.toInt)) := p9
  have hF := FM.tr hF g7 rfl
  refine q_if_eq (tgt := 31) hx hb dX12_isSpan_9 (by decide) rfl (fun c10 => ?_) (fun c10 => ?_)
  · have q11 : (x1.toInt < 1 ∨ 104 < x1.toInt) := by omega
    clear p9
    refine lv_iconst (v := 0) hx hb dX12_isSpan_31 (by decide) ?_
    exact e_Z E hW rfl (by decide) ⟨⟨_, rfl, (by rw [mR, mp8]; have hk : (0 : Int32).toInt = 0 := rfl; first | omega | trivial)⟩, hF⟩ dX12_isSpan_32
  · have q12 : 1 ≤ x1.toInt ∧ x1.toInt ≤ 104 := by omega
    clear p9
    refine lv_aload_n hx hb dX12_isSpan_12 rfl (lv_at hl 0 rfl) ?_
    refine fg_RX12_8 E hW rh0 dX12_isSpan_13 (fun a13 m14 r15 => ?_)
    obtain rfl : pR = a13 := (((fm_R g7 rh0 rfl).trans mR)).symm.trans m14
    refine lv_bipush (v := 8) hx hb dX12_isSpan_16 (by decide) ?_
    refine gl_822 E hW rR (by decide) dX12_isSpan_18 (fun y16 m17 b18 => ?_)
    obtain rfl : p8 = y16 := (((congrArg (fun z => aI z (8 : Int32).toNatClampNeg) (fm_A g7 rR (by decide) rfl)).trans mp8)).symm.trans m17
    refine lv_iload_n hx hb dX12_isSpan_19 rfl (lv_at hl 1 rfl) ?_
    refine q_iadd hx hb dX12_isSpan_20 rfl rfl (by omega) (fun x19 h20 => ?_)
    refine lv_sipush (v := 399) hx hb dX12_isSpan_21 (by decide) ?_
    refine q_icmp_gt (Y := 399) (tgt := 31) hx hb dX12_isSpan_24 (by decide) rfl rfl (fun c21 => ?_) (fun c21 => ?_)
    · refine lv_iconst (v := 0) hx hb dX12_isSpan_31 (by decide) ?_
      exact e_Z E hW rfl (by decide) ⟨⟨_, rfl, (by rw [mR, mp8]; have hk : (0 : Int32).toInt = 0 := rfl; first | omega | trivial)⟩, hF⟩ dX12_isSpan_32
    · refine lv_iconst (v := 1) hx hb dX12_isSpan_27 (by decide) ?_
      refine lv_goto (tgt := 32) hx hb dX12_isSpan_28 (by decide) ?_
      exact e_Z E hW rfl (by decide) ⟨⟨_, rfl, (by rw [mR, mp8]; have hk : (1 : Int32).toInt = 1 := rfl; first | omega | trivial)⟩, hF⟩ dX12_isSpan_32
def ms_X12_areThere : List (Nat × Nat) := []
def po_X12_areThere (kp : Nat → Nat) (L : List Nat) (f0 : Nat → va_E) (h0 : Nat) : Option Value → (Nat → va_E) → Prop := fun v f => (∃ r : Int32, v = some (.int r) ∧ ((0 : Int) ≤ r.toInt ∧ r.toInt ≤ 1)) ∧ FM kp L ms_X12_areThere f0 f
set_option maxHeartbeats 4000000 in
set_option maxRecDepth 100000 in
theorem c_X12_areThere (l : Launch) (G : va_G) (cI cJ cZ cD cR cT : ClassId) (kp : Nat → Nat) (L : List Nat) (f0 : Nat → va_E) (hTH : TH cI cJ cZ cD cR cT kp L f0) (sz : Nat) (h0 : Nat) (rh0 : RK kp L h0 12) : Met l yX12_areThere (Cond.code yX12_areThere cX12_areThere 3 (some .boolean) :: wTab) ({ frames := 3, cells := 0, slots := 0, locals := 86 }) (va_Pc [.ref h0] (PreW G (tys6 cI cJ cZ cD cR cT) (va_pl L f0) sz)) (QT (po_X12_areThere kp L f0 h0) G cI cJ cZ cD cR cT (va_A (va_pl L f0) sz) kp L) 0 0 (va_A (va_pl L f0) sz) := by
  refine metT (by decide) (Nat.le_of_ble_eq_true rfl) hTH ?_
  intro p e s m below meth c A ls E hW hl
  obtain ⟨hx, hb, -, hml, hown, hts, -, -, -⟩ := id E
  have hF : FM kp L ms_X12_areThere f0 f0 := FM.rf
  have hl : lv_has ls 3 [(0, .ref h0)] := hl
  obtain ⟨pR, mR⟩ : ∃ x : Nat, oR (f0 h0) 2 = x := ⟨_, rfl⟩
  have rR : RK kp L pR 822 := by rw [← mR]; exact th_ref hTH rh0 (by decide) (by decide) rfl
  refine lv_iconst (v := 1) hx hb dX12_areThere_0 (by decide) ?_
  refine lv_istore_n (lv' := [(1, .int 1), (0, .ref h0)]) hx hb dX12_areThere_1 rfl hl (by decide) rfl (fun ls hl => ?_)
  refine lv_iconst (v := 0) hx hb dX12_areThere_2 (by decide) ?_
  refine lv_istore_n (lv' := [(2, .int 0), (1, .int 1), (0, .ref h0)]) hx hb dX12_areThere_3 rfl hl (by decide) rfl (fun ls hl => ?_)
  have L381 : ∀ (n : Nat), ∀ (f375 : Nat → va_E) (y377 : Int32) (y379 : Int32) (m376 : oR (f375 h0) 2 = pR) (b378 : (0 : Int) ≤ y377.toInt ∧ y377.toInt ≤ 6) (b380 : (0 : Int) ≤ y379.toInt ∧ y379.toInt ≤ 1) (hm : (7 : Int) - y377.toInt ≤ n) (H : Heap) (locs : List Loc) (ls : Array Slot), WS G cI cJ cZ cD cR cT A kp L f375 s H locs → FM kp L ms_X12_areThere f0 f375 → lv_has ls 3 [(2, .int y377), (1, .int y379), (0, .ref h0)] → W p l e ({ frames := 3, cells := 0, slots := 0, locals := 86 }) s m ([.ref h0] : List Value).toArray below meth c H locs 0 0 (MQ below (QT (po_X12_areThere kp L f0 h0) G cI cJ cZ cD cR cT A kp L) ([.ref h0] : List Value).toArray s 0 0 A) (F0 m 4 ls []) := by
    intro n
    induction n with
    | zero =>
      intro f375 y377 y379 m376 b378 b380 hm H locs ls hW hF hl
      have hz := i32_b y377
      exfalso; omega
    | succ n ih =>
      intro f375 y377 y379 m376 b378 b380 hm H locs ls hW hF hl
      have ih4 := ih
      refine lv_iload_n hx hb dX12_areThere_4 rfl (lv_at hl 0 rfl) ?_
      refine lv_aload_n hx hb dX12_areThere_5 rfl (lv_at hl 2 rfl) ?_
      refine fg_RX12_446 E hW rh0 dX12_areThere_6 (fun y382 m383 b384 => ?_)
      refine q_icmp_ge (tgt := 41) hx hb dX12_areThere_9 (by decide) rfl rfl (fun c422 => ?_) (fun c422 => ?_)
      · refine lv_iload_n hx hb dX12_areThere_41 rfl (lv_at hl 1 rfl) ?_
        exact e_Z E hW rfl (by omega) ⟨⟨_, rfl, (by first | omega | trivial)⟩, hF⟩ dX12_areThere_42
      · refine lv_iload_n hx hb dX12_areThere_12 rfl (lv_at hl 1 rfl) ?_
        have J442 : ∀ (f437 : Nat → va_E) (y440 : Int32) (m438 : oR (f437 h0) 2 = pR) (m439 : oI (f437 h0) 41 = y382) (b441 : (0 : Int) ≤ y440.toInt ∧ y440.toInt ≤ 1) (H : Heap) (locs : List Loc) (ls : Array Slot), WS G cI cJ cZ cD cR cT A kp L f437 s H locs → FM kp L ms_X12_areThere f0 f437 → lv_has ls 3 [(2, .int y377), (1, .int y379), (0, .ref h0)] → W p l e ({ frames := 3, cells := 0, slots := 0, locals := 86 }) s m ([.ref h0] : List Value).toArray below meth c H locs 0 0 (MQ below (QT (po_X12_areThere kp L f0 h0) G cI cJ cZ cD cR cT A kp L) ([.ref h0] : List Value).toArray s 0 0 A) (F0 m 34 ls [.int y440]) := by
          intro f437 y440 m438 m439 b441 H locs ls hW hF hl
          refine lv_istore_n (lv' := [(1, .int y440), (2, .int y377), (0, .ref h0)]) hx hb dX12_areThere_34 rfl hl (by decide) rfl (fun ls hl => ?_)
          refine q_iinc hx hb dX12_areThere_35 hl (k := 1) rfl rfl rfl (by omega) (by decide) (fun i443 ls h444 hl => ?_)
          have hl : lv_has ls 3 [(2, .int i443), (1, .int y440), (0, .ref h0)] := hl
          refine lv_goto (tgt := 4) hx hb dX12_areThere_38 (by decide) ?_
          exact ih4 f437 i443 y440 m438 (by omega) (by omega) (by omega) _ _ _ hW hF (lv_sub hl [0, 1, 2] rfl)
        refine q_if_eq (tgt := 33) hx hb dX12_areThere_13 (by decide) rfl (fun c445 => ?_) (fun c445 => ?_)
        · refine lv_iconst (v := 0) hx hb dX12_areThere_33 (by decide) ?_
          exact J442 f375 0 m376 m383 (by decide) _ _ _ hW hF (lv_sub hl [0, 1, 2] rfl)
        · refine lv_aload_n hx hb dX12_areThere_16 rfl (lv_at hl 2 rfl) ?_
          refine lv_aload_n hx hb dX12_areThere_17 rfl (lv_at hl 2 rfl) ?_
          refine fg_RX12_73 E hW rh0 dX12_areThere_18 (fun a446 m447 r448 => ?_)
          refine lv_iload_n hx hb dX12_areThere_21 rfl (lv_at hl 0 rfl) ?_
          refine gl_862 E hW r448 ⟨by omega, by omega⟩ dX12_areThere_22 (fun y449 m450 b451 => ?_)
          refine t_callV (As := [.int y449]) (rest := []) E hW (c_X12_isField l G cI cJ cZ cD cR cT kp L f375 hW.2.2.2 _ h0 y449 rh0) rh0 (by decide) rfl wk_X12_isField tw_1639 rfl ⟨Nat.le_of_ble_eq_true rfl, Nat.le_of_ble_eq_true rfl⟩ ⟨rfl, rfl⟩ hl.1 rfl (Nat.le_of_ble_eq_true rfl) dX12_areThere_23 ⟨Nat.le_of_ble_eq_true rfl, Nat.le_of_ble_eq_true rfl⟩ (fun v452 f453 H locs q454 hW => ?_)
          obtain ⟨⟨x456, rfl, p457⟩, g455⟩ := q454
          have hF := FM.tr hF g455 rfl
          refine q_if_eq (tgt := 33) hx hb dX12_areThere_26 (by decide) rfl (fun c458 => ?_) (fun c458 => ?_)
          · clear p457
            refine lv_iconst (v := 0) hx hb dX12_areThere_33 (by decide) ?_
            exact J442 f453 0 ((fm_R g455 rh0 rfl).trans m376) ((fm_I g455 rh0 rfl).trans m383) (by decide) _ _ _ hW hF (lv_sub hl [0, 1, 2] rfl)
          · have q459 : 0 ≤ y449.toInt ∧ y449.toInt ≤ 39 := by omega
            clear p457
            refine lv_iconst (v := 1) hx hb dX12_areThere_29 (by decide) ?_
            refine lv_goto (tgt := 34) hx hb dX12_areThere_30 (by decide) ?_
            exact J442 f453 1 ((fm_R g455 rh0 rfl).trans m376) ((fm_I g455 rh0 rfl).trans m383) (by decide) _ _ _ hW hF (lv_sub hl [0, 1, 2] rfl)
  have hk460 : (0 : Int32).toInt = 0 := rfl
  have hk461 : (1 : Int32).toInt = 1 := rfl
  exact L381 7 f0 0 1 mR (by decide) (by decide) (by omega) _ _ _ hW hF (lv_sub hl [0, 1, 2] rfl)
def ms_X12_chosen : List (Nat × Nat) := [(12, 0)]
def po_X12_chosen (kp : Nat → Nat) (L : List Nat) (f0 : Nat → va_E) (h0 : Nat) (u1 : Int32) : Option Value → (Nat → va_E) → Prop := fun v f => (∃ r : Int32, v = some (.int r) ∧ ((-1 : Int) ≤ r.toInt ∧ r.toInt ≤ 1)) ∧ FM kp L ms_X12_chosen f0 f
set_option maxHeartbeats 4000000 in
set_option maxRecDepth 100000 in
theorem c_X12_chosen (l : Launch) (G : va_G) (cI cJ cZ cD cR cT : ClassId) (kp : Nat → Nat) (L : List Nat) (f0 : Nat → va_E) (hTH : TH cI cJ cZ cD cR cT kp L f0) (sz : Nat) (h0 : Nat) (u1 : Int32) (rh0 : RK kp L h0 12) : Met l yX12_chosen (Cond.code yX12_chosen cX12_chosen 2 (some .int) :: wTab) ({ frames := 2, cells := 0, slots := 0, locals := 65 }) (va_Pc [.ref h0, .int u1] (PreW G (tys6 cI cJ cZ cD cR cT) (va_pl L f0) sz)) (QT (po_X12_chosen kp L f0 h0 u1) G cI cJ cZ cD cR cT (va_A (va_pl L f0) sz) kp L) 0 0 (va_A (va_pl L f0) sz) := by
  refine metT (by decide) (Nat.le_of_ble_eq_true rfl) hTH ?_
  intro p e s m below meth c A ls E hW hl
  obtain ⟨hx, hb, -, hml, hown, hts, -, -, -⟩ := id E
  have hF : FM kp L ms_X12_chosen f0 f0 := FM.rf
  have hl : lv_has ls 2 [(0, .ref h0), (1, .int u1)] := hl
  obtain ⟨pR, mR⟩ : ∃ x : Nat, oR (f0 h0) 2 = x := ⟨_, rfl⟩
  have rR : RK kp L pR 822 := by rw [← mR]; exact th_ref hTH rh0 (by decide) (by decide) rfl
  refine lv_aload_n hx hb dX12_chosen_0 rfl (lv_at hl 0 rfl) ?_
  refine lv_iconst (v := 0) hx hb dX12_chosen_1 (by decide) ?_
  refine fp_RX12_82 E hW rh0 dX12_chosen_2 (fun f1 H locs e2 n3 g4 hW => ?_)
  have hF := FM.tr hF g4 rfl
  refine lv_aload_n hx hb dX12_chosen_5 rfl (lv_at hl 0 rfl) ?_
  refine fg_RX12_525 E hW rh0 dX12_chosen_6 (fun y5 m6 b7 => ?_)
  have J40 : ∀ (f34 : Nat → va_E) (y38 : Int32) (m35 : oI (f34 h0) 0 = 0) (m36 : oR (f34 h0) 2 = pR) (m37 : oI (f34 h0) 47 = y5) (b39 : (-1 : Int) ≤ y38.toInt ∧ y38.toInt ≤ 1) (H : Heap) (locs : List Loc) (ls : Array Slot), WS G cI cJ cZ cD cR cT A kp L f34 s H locs → FM kp L ms_X12_chosen f0 f34 → lv_has ls 2 [(0, .ref h0), (1, .int u1)] → W p l e ({ frames := 2, cells := 0, slots := 0, locals := 65 }) s m ([.ref h0, .int u1] : List Value).toArray below meth c H locs 0 0 (MQ below (QT (po_X12_chosen kp L f0 h0 u1) G cI cJ cZ cD cR cT A kp L) ([.ref h0, .int u1] : List Value).toArray s 0 0 A) (F0 m 40 ls [.int y38]) := by
    intro f34 y38 m35 m36 m37 b39 H locs ls hW hF hl
    exact e_I E hW rfl ⟨⟨_, rfl, (by first | omega | trivial)⟩, hF⟩ dX12_chosen_40
  refine q_if_eq (tgt := 39) hx hb dX12_chosen_9 (by decide) rfl (fun c41 => ?_) (fun c41 => ?_)
  · refine lv_iconst (v := (-1)) hx hb dX12_chosen_39 (by decide) ?_
    exact J40 f1 (-1) e2 ((fm_R g4 rh0 rfl).trans mR) m6 (by decide) _ _ _ hW hF (lv_sub hl [0, 1] rfl)
  · refine lv_iload_n hx hb dX12_chosen_12 rfl (lv_at hl 1 rfl) ?_
    refine q_i2l hx hb dX12_chosen_13 rfl (fun x42 h43 => ?_)
    have hb44 : -2147483648 ≤ x42.toInt ∧ x42.toInt ≤ 2147483647 := by have := i32_b u1; omega
    refine lv_lconst (v := 0) hx hb dX12_chosen_14 (by decide) ?_
    refine lv_aload_n hx hb dX12_chosen_15 rfl (lv_at hl 0 rfl) ?_
    refine fg_RX12_528 E hW rh0 dX12_chosen_16 (fun y45 m46 => ?_)
    refine q_i2l hx hb dX12_chosen_19 rfl (fun x48 h49 => ?_)
    have hb50 : -2147483648 ≤ x48.toInt ∧ x48.toInt ≤ 2147483647 := by have := i32_b y45; omega
    refine lv_lconst (v := 1) hx hb dX12_chosen_20 (by decide) ?_
    refine q_lsub (Y := 1) hx hb dX12_chosen_21 rfl rfl (by omega) (fun x51 h52 => ?_)
    refine t_callS (As := [.long x42, .long 0, .long x51]) (rest := []) E hW (c_X12_in l G cI cJ cZ cD cR cT kp L f1 hW.2.2.2 _ x42 0 x51) wk_X12_in tw_1554 rfl ⟨Nat.le_of_ble_eq_true rfl, Nat.le_of_ble_eq_true rfl⟩ ⟨rfl, rfl⟩ hl.1 rfl (Nat.le_of_ble_eq_true rfl) dX12_chosen_22 ⟨Nat.le_of_ble_eq_true rfl, Nat.le_of_ble_eq_true rfl⟩ (fun v53 f54 H locs q55 hW => ?_)
    obtain ⟨⟨x57, rfl, p58⟩, g56⟩ := q55
    have p58 : (x57.toInt = 1 ∧ 0 ≤ x42.toInt ∧ x42.toInt ≤ x51.toInt) ∨ (x57.toInt = 0 ∧ (x42.toInt < 0 ∨ x51.toInt < x42.toInt)) := p58
    have hF := FM.tr hF g56 rfl
    refine q_if_eq (tgt := 39) hx hb dX12_chosen_25 (by decide) rfl (fun c59 => ?_) (fun c59 => ?_)
    · have q60 : (x42.toInt < 0 ∨ x51.toInt < x42.toInt) := by omega
      clear p58
      refine lv_iconst (v := (-1)) hx hb dX12_chosen_39 (by decide) ?_
      exact J40 f54 (-1) ((fm_I g56 rh0 rfl).trans e2) ((fm_R g56 rh0 rfl).trans ((fm_R g4 rh0 rfl).trans mR)) ((fm_I g56 rh0 rfl).trans m6) (by decide) _ _ _ hW hF (lv_sub hl [0, 1] rfl)
    · have q61 : 0 ≤ x42.toInt ∧ x42.toInt ≤ x51.toInt := by omega
      clear p58
      refine lv_aload_n hx hb dX12_chosen_28 rfl (lv_at hl 0 rfl) ?_
      refine fg_RX12_522 E hW rh0 dX12_chosen_29 (fun y62 m63 => ?_)
      refine lv_iload_n hx hb dX12_chosen_32 rfl (lv_at hl 1 rfl) ?_
      refine u_ishr hx hb dX12_chosen_33 (fun x65 => ?_)
      refine lv_iconst (v := 1) hx hb dX12_chosen_34 (by decide) ?_
      refine q_iand (M := 1) (k := 1) hx hb dX12_chosen_35 (by decide) (by decide) (by decide) (fun x66 h67 => ?_)
      refine lv_goto (tgt := 40) hx hb dX12_chosen_36 (by decide) ?_
      exact J40 f54 x66 ((fm_I g56 rh0 rfl).trans e2) ((fm_R g56 rh0 rfl).trans ((fm_R g4 rh0 rfl).trans mR)) ((fm_I g56 rh0 rfl).trans m6) (by omega) _ _ _ hW hF (lv_sub hl [0, 1] rfl)
def ms_X12_addFields : List (Nat × Nat) := [(12, 50), (12, 51)]
def po_X12_addFields (kp : Nat → Nat) (L : List Nat) (f0 : Nat → va_E) (h0 : Nat) : Option Value → (Nat → va_E) → Prop := fun v f => v = none ∧ FM kp L ms_X12_addFields f0 f
set_option maxHeartbeats 4000000 in
set_option maxRecDepth 100000 in
theorem c_X12_addFields (l : Launch) (G : va_G) (cI cJ cZ cD cR cT : ClassId) (kp : Nat → Nat) (L : List Nat) (f0 : Nat → va_E) (hTH : TH cI cJ cZ cD cR cT kp L f0) (sz : Nat) (h0 : Nat) (rh0 : RK kp L h0 12) : Met l yX12_addFields (Cond.code yX12_addFields cX12_addFields 2 none :: wTab) ({ frames := 2, cells := 0, slots := 0, locals := 60 }) (va_Pc [.ref h0] (PreW G (tys6 cI cJ cZ cD cR cT) (va_pl L f0) sz)) (QT (po_X12_addFields kp L f0 h0) G cI cJ cZ cD cR cT (va_A (va_pl L f0) sz) kp L) 0 0 (va_A (va_pl L f0) sz) := by
  refine metT (by decide) (Nat.le_of_ble_eq_true rfl) hTH ?_
  intro p e s m below meth c A ls E hW hl
  obtain ⟨hx, hb, -, hml, hown, hts, -, -, -⟩ := id E
  have hF : FM kp L ms_X12_addFields f0 f0 := FM.rf
  have hl : lv_has ls 2 [(0, .ref h0)] := hl
  obtain ⟨pR, mR⟩ : ∃ x : Nat, oR (f0 h0) 2 = x := ⟨_, rfl⟩
  have rR : RK kp L pR 822 := by rw [← mR]; exact th_ref hTH rh0 (by decide) (by decide) rfl
  refine lv_aload_n hx hb dX12_addFields_0 rfl (lv_at hl 0 rfl) ?_
  refine lv_iconst (v := 0) hx hb dX12_addFields_1 (by decide) ?_
  refine fp_RX12_537 E hW rh0 dX12_addFields_2 (fun f1 H locs e2 n3 g4 hW => ?_)
  have hF := FM.tr hF g4 rfl
  refine lv_aload_n hx hb dX12_addFields_5 rfl (lv_at hl 0 rfl) ?_
  refine lv_iconst (v := 0) hx hb dX12_addFields_6 (by decide) ?_
  refine fp_RX12_540 E hW rh0 dX12_addFields_7 (fun f5 H locs e6 n7 g8 hW => ?_)
  have hF := FM.tr hF g8 rfl
  refine lv_iconst (v := 0) hx hb dX12_addFields_10 (by decide) ?_
  refine lv_istore_n (lv' := [(1, .int 0), (0, .ref h0)]) hx hb dX12_addFields_11 rfl hl (by decide) rfl (fun ls hl => ?_)
  have L1191 : ∀ (n : Nat), ∀ (f1187 : Nat → va_E) (y1189 : Int32) (m1188 : oR (f1187 h0) 2 = pR) (b1190 : (0 : Int) ≤ y1189.toInt ∧ y1189.toInt ≤ 40) (hm : (41 : Int) - y1189.toInt ≤ n) (H : Heap) (locs : List Loc) (ls : Array Slot), WS G cI cJ cZ cD cR cT A kp L f1187 s H locs → FM kp L ms_X12_addFields f0 f1187 → lv_has ls 2 [(1, .int y1189), (0, .ref h0)] → W p l e ({ frames := 2, cells := 0, slots := 0, locals := 60 }) s m ([.ref h0] : List Value).toArray below meth c H locs 0 0 (MQ below (QT (po_X12_addFields kp L f0 h0) G cI cJ cZ cD cR cT A kp L) ([.ref h0] : List Value).toArray s 0 0 A) (F0 m 12 ls []) := by
    intro n
    induction n with
    | zero =>
      intro f1187 y1189 m1188 b1190 hm H locs ls hW hF hl
      have hz := i32_b y1189
      exfalso; omega
    | succ n ih =>
      intro f1187 y1189 m1188 b1190 hm H locs ls hW hF hl
      have ih12 := ih
      refine lv_iload_n hx hb dX12_addFields_12 rfl (lv_at hl 0 rfl) ?_
      refine lv_aload_n hx hb dX12_addFields_13 rfl (lv_at hl 1 rfl) ?_
      refine fg_RX12_8 E hW rh0 dX12_addFields_14 (fun a1192 m1193 r1194 => ?_)
      obtain rfl : pR = a1192 := (m1188).symm.trans m1193
      refine lv_iconst (v := 2) hx hb dX12_addFields_17 (by decide) ?_
      refine gl_822 E hW rR (by decide) dX12_addFields_18 (fun y1195 m1196 b1197 => ?_)
      have b1198 := rr_2 (show RowInv _ from b1197) m1196 (by decide)
      refine q_icmp_ge (tgt := 72) hx hb dX12_addFields_19 (by decide) rfl rfl (fun c1249 => ?_) (fun c1249 => ?_)
      · exact e_V E hW rfl ⟨rfl, hF⟩ dX12_addFields_72
      · refine lv_aload_n hx hb dX12_addFields_22 rfl (lv_at hl 1 rfl) ?_
        refine lv_dup hx hb dX12_addFields_23 rfl ?_
        refine fg_RX12_537 E hW rh0 dX12_addFields_24 (fun y1250 m1251 => ?_)
        refine lv_aload_n hx hb dX12_addFields_27 rfl (lv_at hl 1 rfl) ?_
        refine fg_RX12_8 E hW rh0 dX12_addFields_28 (fun a1253 m1254 r1255 => ?_)
        obtain rfl : pR = a1253 := (m1193).symm.trans m1254
        refine lv_iload_n hx hb dX12_addFields_31 rfl (lv_at hl 0 rfl) ?_
        refine t_callS (As := [.int y1189]) (rest := [.ref pR, .int y1250, .ref h0]) E hW (c_X12_fieldAt l G cI cJ cZ cD cR cT kp L f1187 hW.2.2.2 _ y1189 (by omega)) wk_X12_fieldAt tw_1624 rfl ⟨Nat.le_of_ble_eq_true rfl, Nat.le_of_ble_eq_true rfl⟩ ⟨rfl, rfl⟩ hl.1 rfl (Nat.le_of_ble_eq_true rfl) dX12_addFields_32 ⟨Nat.le_of_ble_eq_true rfl, Nat.le_of_ble_eq_true rfl⟩ (fun v1256 f1257 H locs q1258 hW => ?_)
        obtain ⟨⟨x1260, rfl, p1261⟩, g1259⟩ := q1258
        have hF := FM.tr hF g1259 rfl
        refine lv_iconst (v := 2) hx hb dX12_addFields_35 (by decide) ?_
        refine q_iadd (Y := 2) hx hb dX12_addFields_36 rfl rfl (by omega) (fun x1262 h1263 => ?_)
        refine gl_822 E hW rR ⟨by omega, by omega⟩ dX12_addFields_37 (fun y1264 m1265 b1266 => ?_)
        refine u_iadd hx hb dX12_addFields_38 (fun x1267 => ?_)
        refine fp_RX12_537 E hW rh0 dX12_addFields_39 (fun f1268 H locs e1269 n1270 g1271 hW => ?_)
        have m1272 : aI (f1268 pR) (2 : Int32).toNatClampNeg = y1195 := ((congrArg (fun z => aI z (2 : Int32).toNatClampNeg) (fm_A g1271 rR (by decide) rfl)).trans ((congrArg (fun z => aI z (2 : Int32).toNatClampNeg) (fm_A g1259 rR (by decide) rfl)).trans m1196))
        have hF := FM.tr hF g1271 rfl
        refine lv_aload_n hx hb dX12_addFields_42 rfl (lv_at hl 1 rfl) ?_
        refine lv_dup hx hb dX12_addFields_43 rfl ?_
        refine fg_RX12_540 E hW rh0 dX12_addFields_44 (fun y1273 m1274 => ?_)
        refine lv_aload_n hx hb dX12_addFields_47 rfl (lv_at hl 1 rfl) ?_
        refine fg_RX12_8 E hW rh0 dX12_addFields_48 (fun a1276 m1277 r1278 => ?_)
        obtain rfl : pR = a1276 := (((fm_R g1271 rh0 rfl).trans ((fm_R g1259 rh0 rfl).trans m1254))).symm.trans m1277
        refine lv_iload_n hx hb dX12_addFields_51 rfl (lv_at hl 0 rfl) ?_
        refine t_callS (As := [.int y1189]) (rest := [.ref pR, .int y1273, .ref h0]) E hW (c_X12_fieldAt l G cI cJ cZ cD cR cT kp L f1268 hW.2.2.2 _ y1189 (by omega)) wk_X12_fieldAt tw_1624 rfl ⟨Nat.le_of_ble_eq_true rfl, Nat.le_of_ble_eq_true rfl⟩ ⟨rfl, rfl⟩ hl.1 rfl (Nat.le_of_ble_eq_true rfl) dX12_addFields_52 ⟨Nat.le_of_ble_eq_true rfl, Nat.le_of_ble_eq_true rfl⟩ (fun v1279 f1280 H locs q1281 hW => ?_)
        obtain ⟨⟨x1283, rfl, p1284⟩, g1282⟩ := q1281
        have m1285 : aI (f1280 pR) (x1262 : Int32).toNatClampNeg = y1264 := ((congrArg (fun z => aI z (x1262 : Int32).toNatClampNeg) (fm_A g1282 rR (by decide) rfl)).trans ((congrArg (fun z => aI z (x1262 : Int32).toNatClampNeg) (fm_A g1271 rR (by decide) rfl)).trans m1265))
        have hF := FM.tr hF g1282 rfl
        refine lv_iconst (v := 2) hx hb dX12_addFields_55 (by decide) ?_
        refine q_iadd (Y := 2) hx hb dX12_addFields_56 rfl rfl (by omega) (fun x1286 h1287 => ?_)
        refine gl_822 E hW rR ⟨by omega, by omega⟩ dX12_addFields_57 (fun y1288 m1289 b1290 => ?_)
        have m1291 : aI (f1280 pR) (x1286 : Int32).toNatClampNeg = y1264 := by rw [show (x1286 : Int32) = x1262 from Int32.toInt_inj.mp (by omega)]; exact m1285
        obtain rfl : y1264 = y1288 := (m1291).symm.trans m1289
        refine lv_iload_n hx hb dX12_addFields_58 rfl (lv_at hl 0 rfl) ?_
        refine lv_iconst (v := 1) hx hb dX12_addFields_59 (by decide) ?_
        refine q_iadd (Y := 1) hx hb dX12_addFields_60 rfl rfl (by omega) (fun x1292 h1293 => ?_)
        refine u_imul hx hb dX12_addFields_61 (fun x1294 => ?_)
        refine u_iadd hx hb dX12_addFields_62 (fun x1295 => ?_)
        refine fp_RX12_540 E hW rh0 dX12_addFields_63 (fun f1296 H locs e1297 n1298 g1299 hW => ?_)
        have m1300 : aI (f1296 pR) (2 : Int32).toNatClampNeg = y1195 := ((congrArg (fun z => aI z (2 : Int32).toNatClampNeg) (fm_A g1299 rR (by decide) rfl)).trans ((congrArg (fun z => aI z (2 : Int32).toNatClampNeg) (fm_A g1282 rR (by decide) rfl)).trans m1272))
        have hF := FM.tr hF g1299 rfl
        refine q_iinc hx hb dX12_addFields_66 hl (k := 0) rfl rfl rfl (by omega) (by decide) (fun i1301 ls h1302 hl => ?_)
        have hl : lv_has ls 2 [(1, .int i1301), (0, .ref h0)] := hl
        refine lv_goto (tgt := 12) hx hb dX12_addFields_69 (by decide) ?_
        exact ih12 f1296 i1301 ((fm_R g1299 rh0 rfl).trans ((fm_R g1282 rh0 rfl).trans m1277)) (by omega) (by omega) _ _ _ hW hF (lv_sub hl [0, 1] rfl)
  have hk1303 : (0 : Int32).toInt = 0 := rfl
  exact L1191 41 f5 0 ((fm_R g8 rh0 rfl).trans ((fm_R g4 rh0 rfl).trans mR)) (by decide) (by omega) _ _ _ hW hF (lv_sub hl [0, 1] rfl)
def rw_X12_seal : List (Nat × Nat) := [(11, 13)]
def ms_X12_seal : List (Nat × Nat) := [(12, 0), (12, 50), (12, 51), (822, 0)]
def po_X12_seal (kp : Nat → Nat) (L : List Nat) (f0 : Nat → va_E) (h0 : Nat) : Option Value → (Nat → va_E) → Prop := fun v f => (∃ r : Int32, v = some (.int r) ∧ ((0 : Int) ≤ r.toInt ∧ r.toInt ≤ 40)) ∧ FM kp L ms_X12_seal f0 f ∧ (RF rw_X12_seal f0 f h0)
set_option maxHeartbeats 4000000 in
set_option maxRecDepth 100000 in
theorem c_X12_seal (l : Launch) (G : va_G) (cI cJ cZ cD cR cT : ClassId) (kp : Nat → Nat) (L : List Nat) (f0 : Nat → va_E) (hTH : TH cI cJ cZ cD cR cT kp L f0) (sz : Nat) (h0 : Nat) (rh0 : RK kp L h0 12) : Met l yX12_seal (Cond.code yX12_seal cX12_seal 1 (some .int) :: wTab) ({ frames := 3, cells := 0, slots := 0, locals := 81 }) (va_Pc [.ref h0] (PreW G (tys6 cI cJ cZ cD cR cT) (va_pl L f0) sz)) (QT (po_X12_seal kp L f0 h0) G cI cJ cZ cD cR cT (va_A (va_pl L f0) sz) kp L) 0 0 (va_A (va_pl L f0) sz) := by
  refine metT (by decide) (Nat.le_of_ble_eq_true rfl) hTH ?_
  intro p e s m below meth c A ls E hW hl
  obtain ⟨hx, hb, -, hml, hown, hts, -, -, -⟩ := id E
  have hF : FM kp L ms_X12_seal f0 f0 := FM.rf
  have hl : lv_has ls 1 [(0, .ref h0)] := hl
  obtain ⟨pR, mR⟩ : ∃ x : Nat, oR (f0 h0) 2 = x := ⟨_, rfl⟩
  have rR : RK kp L pR 822 := by rw [← mR]; exact th_ref hTH rh0 (by decide) (by decide) rfl
  refine lv_aload_n hx hb dX12_seal_0 rfl (lv_at hl 0 rfl) ?_
  refine lv_iconst (v := 0) hx hb dX12_seal_1 (by decide) ?_
  refine fp_RX12_82 E hW rh0 dX12_seal_2 (fun f1 H locs e2 n3 g4 hW => ?_)
  have z5 : RF rw_X12_seal f0 f1 h0 := rf_fm hTH rf_rf g4 rh0 rfl
  have hF := FM.tr hF g4 rfl
  refine lv_aload_n hx hb dX12_seal_5 rfl (lv_at hl 0 rfl) ?_
  refine t_callV (As := []) (rest := []) E hW (c_X12_addFields l G cI cJ cZ cD cR cT kp L f1 hW.2.2.2 _ h0 rh0) rh0 (by decide) rfl wk_X12_addFields tw_2072 rfl ⟨Nat.le_of_ble_eq_true rfl, Nat.le_of_ble_eq_true rfl⟩ ⟨rfl, rfl⟩ hl.1 rfl (Nat.le_of_ble_eq_true rfl) dX12_seal_6 ⟨Nat.le_of_ble_eq_true rfl, Nat.le_of_ble_eq_true rfl⟩ (fun v6 f7 H locs q8 hW => ?_)
  obtain ⟨rfl, g9⟩ := q8
  have z10 : RF rw_X12_seal f0 f7 h0 := rf_fm hTH z5 g9 rh0 rfl
  have hF := FM.tr hF g9 rfl
  refine lv_aload_n hx hb dX12_seal_9 rfl (lv_at hl 0 rfl) ?_
  refine fg_RX12_8 E hW rh0 dX12_seal_10 (fun a11 m12 r13 => ?_)
  obtain rfl : pR = a11 := (((fm_R g9 rh0 rfl).trans ((fm_R g4 rh0 rfl).trans mR))).symm.trans m12
  refine lv_bipush (v := 11) hx hb dX12_seal_13 (by decide) ?_
  refine lv_aload_n hx hb dX12_seal_15 rfl (lv_at hl 0 rfl) ?_
  refine fg_RX12_8 E hW rh0 dX12_seal_16 (fun a14 m15 r16 => ?_)
  obtain rfl : pR = a14 := (m12).symm.trans m15
  refine lv_iconst (v := 2) hx hb dX12_seal_19 (by decide) ?_
  refine gl_822 E hW rR (by decide) dX12_seal_20 (fun y17 m18 b19 => ?_)
  have b20 := rr_2 (show RowInv _ from b19) m18 (by decide)
  refine lv_iconst (v := 1) hx hb dX12_seal_21 (by decide) ?_
  refine q_iadd (Y := 1) hx hb dX12_seal_22 rfl rfl (by omega) (fun x21 h22 => ?_)
  have hk23 : (11 : Int32).toInt = 11 := rfl
  refine gs_822 E hW rR (by decide) (fun hc => rr_up hc (by omega) (by omega) (by unfold rbI; omega)) dX12_seal_23 (fun f24 H locs e25 n26 g27 hW => ?_)
  have z28 : RF rw_X12_seal f0 f24 h0 := rf_st (lo := 11) (hi := 11) z10 mR e25 (by decide) rfl
  have hF := FM.tr hF g27 rfl
  refine lv_aload_n hx hb dX12_seal_24 rfl (lv_at hl 0 rfl) ?_
  refine fg_RX12_8 E hW rh0 dX12_seal_25 (fun a29 m30 r31 => ?_)
  obtain rfl : pR = a29 := (((fm_R g27 rh0 rfl).trans m15)).symm.trans m30
  refine lv_bipush (v := 12) hx hb dX12_seal_28 (by decide) ?_
  refine lv_aload_n hx hb dX12_seal_30 rfl (lv_at hl 0 rfl) ?_
  refine fg_RX12_537 E hW rh0 dX12_seal_31 (fun y32 m33 => ?_)
  have hk35 : (12 : Int32).toInt = 12 := rfl
  refine gs_822 E hW rR (by decide) (fun hc => rr_up hc (by omega) (by omega) (by unfold rbI; omega)) dX12_seal_34 (fun f36 H locs e37 n38 g39 hW => ?_)
  have z40 : RF rw_X12_seal f0 f36 h0 := rf_st (lo := 12) (hi := 12) z28 mR e37 (by decide) rfl
  have hF := FM.tr hF g39 rfl
  refine lv_aload_n hx hb dX12_seal_35 rfl (lv_at hl 0 rfl) ?_
  refine fg_RX12_8 E hW rh0 dX12_seal_36 (fun a41 m42 r43 => ?_)
  obtain rfl : pR = a41 := (((fm_R g39 rh0 rfl).trans m30)).symm.trans m42
  refine lv_bipush (v := 13) hx hb dX12_seal_39 (by decide) ?_
  refine lv_aload_n hx hb dX12_seal_41 rfl (lv_at hl 0 rfl) ?_
  refine fg_RX12_540 E hW rh0 dX12_seal_42 (fun y44 m45 => ?_)
  have hk47 : (13 : Int32).toInt = 13 := rfl
  refine gs_822 E hW rR (by decide) (fun hc => rr_up hc (by omega) (by omega) (by unfold rbI; omega)) dX12_seal_45 (fun f48 H locs e49 n50 g51 hW => ?_)
  have z52 : RF rw_X12_seal f0 f48 h0 := rf_st (lo := 13) (hi := 13) z40 mR e49 (by decide) rfl
  have hF := FM.tr hF g51 rfl
  refine lv_aload_n hx hb dX12_seal_46 rfl (lv_at hl 0 rfl) ?_
  refine fg_RX12_8 E hW rh0 dX12_seal_47 (fun a53 m54 r55 => ?_)
  obtain rfl : pR = a53 := (((fm_R g51 rh0 rfl).trans m42)).symm.trans m54
  refine lv_iconst (v := 2) hx hb dX12_seal_50 (by decide) ?_
  refine gl_822 E hW rR (by decide) dX12_seal_51 (fun y56 m57 b58 => ?_)
  obtain rfl : y17 = y56 := ((show aI (f48 pR) (2 : Int32).toNatClampNeg = y17 from by rw [e49, up_n (tn_ne (by decide) (by decide) (by decide))]; exact (show aI (f36 pR) (2 : Int32).toNatClampNeg = y17 from by rw [e37, up_n (tn_ne (by decide) (by decide) (by decide))]; exact (show aI (f24 pR) (2 : Int32).toNatClampNeg = y17 from by rw [e25, up_n (tn_ne (by decide) (by decide) (by decide))]; exact m18)))).symm.trans m57
  exact e_I E hW rfl ⟨⟨_, rfl, (by first | omega | trivial)⟩, hF, z52⟩ dX12_seal_52
def rw_X12_alter : List (Nat × Nat) := [(366, 678)]
def ms_X12_alter : List (Nat × Nat) := [(12, 0), (12, 1), (822, 0)]
def po_X12_alter (kp : Nat → Nat) (L : List Nat) (f0 : Nat → va_E) (h0 : Nat) (u1 : Int32) (u2 : Int32) : Option Value → (Nat → va_E) → Prop := fun v f => (∃ r : Int32, v = some (.int r) ∧ (True)) ∧ FM kp L ms_X12_alter f0 f ∧ (RF rw_X12_alter f0 f h0)
set_option maxHeartbeats 4000000 in
set_option maxRecDepth 100000 in
theorem c_X12_alter (l : Launch) (G : va_G) (cI cJ cZ cD cR cT : ClassId) (kp : Nat → Nat) (L : List Nat) (f0 : Nat → va_E) (hTH : TH cI cJ cZ cD cR cT kp L f0) (sz : Nat) (h0 : Nat) (u1 : Int32) (u2 : Int32) (rh0 : RK kp L h0 12) : Met l yX12_alter (Cond.code yX12_alter cX12_alter 3 (some .int) :: wTab) ({ frames := 3, cells := 0, slots := 0, locals := 86 }) (va_Pc [.ref h0, .int u1, .int u2] (PreW G (tys6 cI cJ cZ cD cR cT) (va_pl L f0) sz)) (QT (po_X12_alter kp L f0 h0 u1 u2) G cI cJ cZ cD cR cT (va_A (va_pl L f0) sz) kp L) 0 0 (va_A (va_pl L f0) sz) := by
  refine metT (by decide) (Nat.le_of_ble_eq_true rfl) hTH ?_
  intro p e s m below meth c A ls E hW hl
  obtain ⟨hx, hb, -, hml, hown, hts, -, -, -⟩ := id E
  have hF : FM kp L ms_X12_alter f0 f0 := FM.rf
  have hl : lv_has ls 3 [(0, .ref h0), (1, .int u1), (2, .int u2)] := hl
  obtain ⟨pR, mR⟩ : ∃ x : Nat, oR (f0 h0) 2 = x := ⟨_, rfl⟩
  have rR : RK kp L pR 822 := by rw [← mR]; exact th_ref hTH rh0 (by decide) (by decide) rfl
  refine lv_aload_n hx hb dX12_alter_0 rfl (lv_at hl 0 rfl) ?_
  refine lv_iconst (v := 0) hx hb dX12_alter_1 (by decide) ?_
  refine fp_RX12_82 E hW rh0 dX12_alter_2 (fun f1 H locs e2 n3 g4 hW => ?_)
  have z5 : RF rw_X12_alter f0 f1 h0 := rf_fm hTH rf_rf g4 rh0 rfl
  have hF := FM.tr hF g4 rfl
  refine lv_iload_n hx hb dX12_alter_5 rfl (lv_at hl 2 rfl) ?_
  refine q_i2l hx hb dX12_alter_6 rfl (fun x6 h7 => ?_)
  have hb8 : -2147483648 ≤ x6.toInt ∧ x6.toInt ≤ 2147483647 := by have := i32_b u2; omega
  refine lv_lconst (v := 1) hx hb dX12_alter_7 (by decide) ?_
  refine lv_ldc2 (v := 255) hx hb hown (hts _ tw_2080) dX12_alter_8 ?_
  refine t_callS (As := [.long x6, .long 1, .long 255]) (rest := []) E hW (c_X12_in l G cI cJ cZ cD cR cT kp L f1 hW.2.2.2 _ x6 1 255) wk_X12_in tw_1554 rfl ⟨Nat.le_of_ble_eq_true rfl, Nat.le_of_ble_eq_true rfl⟩ ⟨rfl, rfl⟩ hl.1 rfl (Nat.le_of_ble_eq_true rfl) dX12_alter_11 ⟨Nat.le_of_ble_eq_true rfl, Nat.le_of_ble_eq_true rfl⟩ (fun v9 f10 H locs q11 hW => ?_)
  obtain ⟨⟨x13, rfl, p14⟩, g12⟩ := q11
  have p14 : (x13.toInt = 1 ∧ 1 ≤ x6.toInt ∧ x6.toInt ≤ 255) ∨ (x13.toInt = 0 ∧ (x6.toInt < 1 ∨ 255 < x6.toInt)) := p14
  have z15 : RF rw_X12_alter f0 f10 h0 := rf_fm hTH z5 g12 rh0 rfl
  have hF := FM.tr hF g12 rfl
  refine q_if_ne (tgt := 23) hx hb dX12_alter_14 (by decide) rfl (fun c16 => ?_) (fun c16 => ?_)
  · have q17 : 1 ≤ x6.toInt ∧ x6.toInt ≤ 255 := by omega
    clear p14
    refine lv_aload_n hx hb dX12_alter_23 rfl (lv_at hl 0 rfl) ?_
    refine lv_iload_n hx hb dX12_alter_24 rfl (lv_at hl 1 rfl) ?_
    refine t_callV (As := [.int u1]) (rest := []) E hW (c_X12_isField l G cI cJ cZ cD cR cT kp L f10 hW.2.2.2 _ h0 u1 rh0) rh0 (by decide) rfl wk_X12_isField tw_1639 rfl ⟨Nat.le_of_ble_eq_true rfl, Nat.le_of_ble_eq_true rfl⟩ ⟨rfl, rfl⟩ hl.1 rfl (Nat.le_of_ble_eq_true rfl) dX12_alter_25 ⟨Nat.le_of_ble_eq_true rfl, Nat.le_of_ble_eq_true rfl⟩ (fun v18 f19 H locs q20 hW => ?_)
    obtain ⟨⟨x22, rfl, p23⟩, g21⟩ := q20
    have z24 : RF rw_X12_alter f0 f19 h0 := rf_fm hTH z15 g21 rh0 rfl
    have hF := FM.tr hF g21 rfl
    refine q_if_ne (tgt := 38) hx hb dX12_alter_28 (by decide) rfl (fun c25 => ?_) (fun c25 => ?_)
    · have q26 : 0 ≤ u1.toInt ∧ u1.toInt ≤ 39 := by omega
      clear p23
      refine lv_aload_n hx hb dX12_alter_38 rfl (lv_at hl 0 rfl) ?_
      refine fg_RX12_8 E hW rh0 dX12_alter_39 (fun a27 m28 r29 => ?_)
      obtain rfl : pR = a27 := (((fm_R g21 rh0 rfl).trans ((fm_R g12 rh0 rfl).trans ((fm_R g4 rh0 rfl).trans mR)))).symm.trans m28
      refine lv_iload_n hx hb dX12_alter_42 rfl (lv_at hl 1 rfl) ?_
      refine t_callS (As := [.int u1]) (rest := [.ref pR]) E hW (c_X12_fieldAt l G cI cJ cZ cD cR cT kp L f19 hW.2.2.2 _ u1 (by omega)) wk_X12_fieldAt tw_1624 rfl ⟨Nat.le_of_ble_eq_true rfl, Nat.le_of_ble_eq_true rfl⟩ ⟨rfl, rfl⟩ hl.1 rfl (Nat.le_of_ble_eq_true rfl) dX12_alter_43 ⟨Nat.le_of_ble_eq_true rfl, Nat.le_of_ble_eq_true rfl⟩ (fun v30 f31 H locs q32 hW => ?_)
      obtain ⟨⟨x34, rfl, p35⟩, g33⟩ := q32
      have z36 : RF rw_X12_alter f0 f31 h0 := rf_fm hTH z24 g33 rh0 rfl
      have hF := FM.tr hF g33 rfl
      refine lv_iconst (v := 2) hx hb dX12_alter_46 (by decide) ?_
      refine q_iadd (Y := 2) hx hb dX12_alter_47 rfl rfl (by omega) (fun x37 h38 => ?_)
      refine lv_dup2_11 hx hb dX12_alter_48 rfl rfl ?_
      refine gl_822 E hW rR ⟨by omega, by omega⟩ dX12_alter_49 (fun y39 m40 b41 => ?_)
      refine lv_iload_n hx hb dX12_alter_50 rfl (lv_at hl 2 rfl) ?_
      refine u_ixor hx hb dX12_alter_51 (fun x42 => ?_)
      refine gs_822 E hW rR ⟨by omega, by omega⟩ (fun hc => rr_up hc (by omega) (by omega) (by unfold rbI; omega)) dX12_alter_52 (fun f43 H locs e44 n45 g46 hW => ?_)
      have z47 : RF rw_X12_alter f0 f43 h0 := rf_st (lo := 366) (hi := 678) z36 mR e44 (by omega) rfl
      have hF := FM.tr hF g46 rfl
      refine lv_aload_n hx hb dX12_alter_53 rfl (lv_at hl 0 rfl) ?_
      refine lv_iconst (v := 0) hx hb dX12_alter_54 (by decide) ?_
      refine fp_RX12_85 E hW rh0 dX12_alter_55 (fun f48 H locs e49 n50 g51 hW => ?_)
      have z52 : RF rw_X12_alter f0 f48 h0 := rf_fm hTH z47 g51 rh0 rfl
      have hF := FM.tr hF g51 rfl
      refine lv_aload_n hx hb dX12_alter_58 rfl (lv_at hl 0 rfl) ?_
      refine fg_RX12_8 E hW rh0 dX12_alter_59 (fun a53 m54 r55 => ?_)
      obtain rfl : pR = a53 := (((fm_R g51 rh0 rfl).trans ((fm_R g46 rh0 rfl).trans ((fm_R g33 rh0 rfl).trans m28)))).symm.trans m54
      refine lv_iload_n hx hb dX12_alter_62 rfl (lv_at hl 1 rfl) ?_
      refine t_callS (As := [.int u1]) (rest := [.ref pR]) E hW (c_X12_fieldAt l G cI cJ cZ cD cR cT kp L f48 hW.2.2.2 _ u1 (by omega)) wk_X12_fieldAt tw_1624 rfl ⟨Nat.le_of_ble_eq_true rfl, Nat.le_of_ble_eq_true rfl⟩ ⟨rfl, rfl⟩ hl.1 rfl (Nat.le_of_ble_eq_true rfl) dX12_alter_63 ⟨Nat.le_of_ble_eq_true rfl, Nat.le_of_ble_eq_true rfl⟩ (fun v56 f57 H locs q58 hW => ?_)
      obtain ⟨⟨x60, rfl, p61⟩, g59⟩ := q58
      have m62 : aI (f57 pR) (x37 : Int32).toNatClampNeg = x42 := ((congrArg (fun z => aI z (x37 : Int32).toNatClampNeg) (fm_A g59 rR (by decide) rfl)).trans ((congrArg (fun z => aI z (x37 : Int32).toNatClampNeg) (fm_A g51 rR (by decide) rfl)).trans (show aI (f43 pR) (x37 : Int32).toNatClampNeg = x42 from by rw [e44]; exact up_s)))
      have z63 : RF rw_X12_alter f0 f57 h0 := rf_fm hTH z52 g59 rh0 rfl
      have hF := FM.tr hF g59 rfl
      refine lv_iconst (v := 2) hx hb dX12_alter_66 (by decide) ?_
      refine q_iadd (Y := 2) hx hb dX12_alter_67 rfl rfl (by omega) (fun x64 h65 => ?_)
      refine gl_822 E hW rR ⟨by omega, by omega⟩ dX12_alter_68 (fun y66 m67 b68 => ?_)
      have m69 : aI (f57 pR) (x64 : Int32).toNatClampNeg = x42 := by rw [show (x64 : Int32) = x37 from Int32.toInt_inj.mp (by omega)]; exact m62
      obtain rfl : x42 = y66 := (m69).symm.trans m67
      exact e_I E hW rfl ⟨⟨_, rfl, trivial⟩, hF, z63⟩ dX12_alter_69
    · clear p23
      refine lv_aload_n hx hb dX12_alter_31 rfl (lv_at hl 0 rfl) ?_
      refine lv_bipush (v := (-2)) hx hb dX12_alter_32 (by decide) ?_
      refine t_callV (As := [.int (-2)]) (rest := []) E hW (c_X12_told l G cI cJ cZ cD cR cT kp L f19 hW.2.2.2 _ h0 (-2) rh0) rh0 (by decide) rfl wk_X12_told tw_1557 rfl ⟨Nat.le_of_ble_eq_true rfl, Nat.le_of_ble_eq_true rfl⟩ ⟨rfl, rfl⟩ hl.1 rfl (Nat.le_of_ble_eq_true rfl) dX12_alter_34 ⟨Nat.le_of_ble_eq_true rfl, Nat.le_of_ble_eq_true rfl⟩ (fun v70 f71 H locs q72 hW => ?_)
      obtain ⟨⟨x74, rfl, p75⟩, g73⟩ := q72
      clear p75
      have z76 : RF rw_X12_alter f0 f71 h0 := rf_fm hTH z24 g73 rh0 rfl
      have hF := FM.tr hF g73 rfl
      exact e_I E hW rfl ⟨⟨_, rfl, trivial⟩, hF, z76⟩ dX12_alter_37
  · have q77 : (x6.toInt < 1 ∨ 255 < x6.toInt) := by omega
    clear p14
    refine lv_aload_n hx hb dX12_alter_17 rfl (lv_at hl 0 rfl) ?_
    refine lv_iconst (v := (-1)) hx hb dX12_alter_18 (by decide) ?_
    refine t_callV (As := [.int (-1)]) (rest := []) E hW (c_X12_told l G cI cJ cZ cD cR cT kp L f10 hW.2.2.2 _ h0 (-1) rh0) rh0 (by decide) rfl wk_X12_told tw_1557 rfl ⟨Nat.le_of_ble_eq_true rfl, Nat.le_of_ble_eq_true rfl⟩ ⟨rfl, rfl⟩ hl.1 rfl (Nat.le_of_ble_eq_true rfl) dX12_alter_19 ⟨Nat.le_of_ble_eq_true rfl, Nat.le_of_ble_eq_true rfl⟩ (fun v78 f79 H locs q80 hW => ?_)
    obtain ⟨⟨x82, rfl, p83⟩, g81⟩ := q80
    clear p83
    have z84 : RF rw_X12_alter f0 f79 h0 := rf_fm hTH z15 g81 rh0 rfl
    have hF := FM.tr hF g81 rfl
    exact e_I E hW rfl ⟨⟨_, rfl, trivial⟩, hF, z84⟩ dX12_alter_22
def ms_X12_found : List (Nat × Nat) := [(12, 0), (12, 50), (12, 51)]
def po_X12_found (kp : Nat → Nat) (L : List Nat) (f0 : Nat → va_E) (h0 : Nat) : Option Value → (Nat → va_E) → Prop := fun v f => (∃ r : Int32, v = some (.int r) ∧ ((-3 : Int) ≤ r.toInt ∧ r.toInt ≤ 39)) ∧ FM kp L ms_X12_found f0 f
set_option maxHeartbeats 4000000 in
set_option maxRecDepth 100000 in
theorem c_X12_found (l : Launch) (G : va_G) (cI cJ cZ cD cR cT : ClassId) (kp : Nat → Nat) (L : List Nat) (f0 : Nat → va_E) (hTH : TH cI cJ cZ cD cR cT kp L f0) (sz : Nat) (h0 : Nat) (rh0 : RK kp L h0 12) : Met l yX12_found (Cond.code yX12_found cX12_found 4 (some .int) :: wTab) ({ frames := 3, cells := 0, slots := 0, locals := 81 }) (va_Pc [.ref h0] (PreW G (tys6 cI cJ cZ cD cR cT) (va_pl L f0) sz)) (QT (po_X12_found kp L f0 h0) G cI cJ cZ cD cR cT (va_A (va_pl L f0) sz) kp L) 0 0 (va_A (va_pl L f0) sz) := by
  refine metT (by decide) (Nat.le_of_ble_eq_true rfl) hTH ?_
  intro p e s m below meth c A ls E hW hl
  obtain ⟨hx, hb, -, hml, hown, hts, -, -, -⟩ := id E
  have hF : FM kp L ms_X12_found f0 f0 := FM.rf
  have hl : lv_has ls 4 [(0, .ref h0)] := hl
  obtain ⟨pR, mR⟩ : ∃ x : Nat, oR (f0 h0) 2 = x := ⟨_, rfl⟩
  have rR : RK kp L pR 822 := by rw [← mR]; exact th_ref hTH rh0 (by decide) (by decide) rfl
  refine lv_aload_n hx hb dX12_found_0 rfl (lv_at hl 0 rfl) ?_
  refine lv_iconst (v := 0) hx hb dX12_found_1 (by decide) ?_
  refine fp_RX12_82 E hW rh0 dX12_found_2 (fun f1 H locs e2 n3 g4 hW => ?_)
  have hF := FM.tr hF g4 rfl
  refine lv_aload_n hx hb dX12_found_5 rfl (lv_at hl 0 rfl) ?_
  refine fg_RX12_8 E hW rh0 dX12_found_6 (fun a5 m6 r7 => ?_)
  obtain rfl : pR = a5 := (((fm_R g4 rh0 rfl).trans mR)).symm.trans m6
  refine lv_bipush (v := 11) hx hb dX12_found_9 (by decide) ?_
  refine gl_822 E hW rR (by decide) dX12_found_11 (fun y8 m9 b10 => ?_)
  refine q_if_ne (tgt := 18) hx hb dX12_found_12 (by decide) rfl (fun c11 => ?_) (fun c11 => ?_)
  · refine lv_aload_n hx hb dX12_found_18 rfl (lv_at hl 0 rfl) ?_
    refine fg_RX12_8 E hW rh0 dX12_found_19 (fun a12 m13 r14 => ?_)
    obtain rfl : pR = a12 := (m6).symm.trans m13
    refine lv_bipush (v := 11) hx hb dX12_found_22 (by decide) ?_
    refine gl_822 E hW rR (by decide) dX12_found_24 (fun y15 m16 b17 => ?_)
    obtain rfl : y8 = y15 := (m9).symm.trans m16
    refine lv_aload_n hx hb dX12_found_25 rfl (lv_at hl 0 rfl) ?_
    refine fg_RX12_8 E hW rh0 dX12_found_26 (fun a18 m19 r20 => ?_)
    obtain rfl : pR = a18 := (m13).symm.trans m19
    refine lv_iconst (v := 2) hx hb dX12_found_29 (by decide) ?_
    refine gl_822 E hW rR (by decide) dX12_found_30 (fun y21 m22 b23 => ?_)
    have b24 := rr_2 (show RowInv _ from b23) m22 (by decide)
    refine lv_iconst (v := 1) hx hb dX12_found_31 (by decide) ?_
    refine q_iadd (Y := 1) hx hb dX12_found_32 rfl rfl (by omega) (fun x25 h26 => ?_)
    refine q_icmp_eq (tgt := 39) hx hb dX12_found_33 (by decide) rfl rfl (fun c27 => ?_) (fun c27 => ?_)
    · refine lv_aload_n hx hb dX12_found_39 rfl (lv_at hl 0 rfl) ?_
      refine t_callV (As := []) (rest := []) E hW (c_X12_addFields l G cI cJ cZ cD cR cT kp L f1 hW.2.2.2 _ h0 rh0) rh0 (by decide) rfl wk_X12_addFields tw_2072 rfl ⟨Nat.le_of_ble_eq_true rfl, Nat.le_of_ble_eq_true rfl⟩ ⟨rfl, rfl⟩ hl.1 rfl (Nat.le_of_ble_eq_true rfl) dX12_found_40 ⟨Nat.le_of_ble_eq_true rfl, Nat.le_of_ble_eq_true rfl⟩ (fun v28 f29 H locs q30 hW => ?_)
      obtain ⟨rfl, g31⟩ := q30
      have hF := FM.tr hF g31 rfl
      refine lv_aload_n hx hb dX12_found_43 rfl (lv_at hl 0 rfl) ?_
      refine fg_RX12_537 E hW rh0 dX12_found_44 (fun y32 m33 => ?_)
      refine lv_aload_n hx hb dX12_found_47 rfl (lv_at hl 0 rfl) ?_
      refine fg_RX12_8 E hW rh0 dX12_found_48 (fun a35 m36 r37 => ?_)
      obtain rfl : pR = a35 := (((fm_R g31 rh0 rfl).trans m19)).symm.trans m36
      refine lv_bipush (v := 12) hx hb dX12_found_51 (by decide) ?_
      refine gl_822 E hW rR (by decide) dX12_found_53 (fun y38 m39 b40 => ?_)
      refine u_isub hx hb dX12_found_54 (fun x41 => ?_)
      refine lv_istore_n (lv' := [(1, .int x41), (0, .ref h0)]) hx hb dX12_found_55 rfl hl (by decide) rfl (fun ls hl => ?_)
      refine lv_aload_n hx hb dX12_found_56 rfl (lv_at hl 1 rfl) ?_
      refine fg_RX12_540 E hW rh0 dX12_found_57 (fun y42 m43 => ?_)
      refine lv_aload_n hx hb dX12_found_60 rfl (lv_at hl 1 rfl) ?_
      refine fg_RX12_8 E hW rh0 dX12_found_61 (fun a45 m46 r47 => ?_)
      obtain rfl : pR = a45 := (m36).symm.trans m46
      refine lv_bipush (v := 13) hx hb dX12_found_64 (by decide) ?_
      refine gl_822 E hW rR (by decide) dX12_found_66 (fun y48 m49 b50 => ?_)
      refine u_isub hx hb dX12_found_67 (fun x51 => ?_)
      refine lv_istore_n (lv' := [(2, .int x51), (1, .int x41), (0, .ref h0)]) hx hb dX12_found_68 rfl hl (by decide) rfl (fun ls hl => ?_)
      refine lv_iload_n hx hb dX12_found_69 rfl (lv_at hl 1 rfl) ?_
      refine q_if_ne (tgt := 84) hx hb dX12_found_70 (by decide) rfl (fun c52 => ?_) (fun c52 => ?_)
      · refine lv_iconst (v := 0) hx hb dX12_found_84 (by decide) ?_
        refine lv_istore_n (lv' := [(3, .int 0), (2, .int x51), (1, .int x41), (0, .ref h0)]) hx hb dX12_found_85 rfl hl (by decide) rfl (fun ls hl => ?_)
        have L492 : ∀ (n : Nat), ∀ (y490 : Int32) (b491 : (0 : Int) ≤ y490.toInt ∧ y490.toInt ≤ 40) (hm : (41 : Int) - y490.toInt ≤ n) (H : Heap) (locs : List Loc) (ls : Array Slot), WS G cI cJ cZ cD cR cT A kp L f29 s H locs → FM kp L ms_X12_found f0 f29 → lv_has ls 4 [(3, .int y490), (2, .int x51), (1, .int x41), (0, .ref h0)] → W p l e ({ frames := 3, cells := 0, slots := 0, locals := 81 }) s m ([.ref h0] : List Value).toArray below meth c H locs 0 0 (MQ below (QT (po_X12_found kp L f0 h0) G cI cJ cZ cD cR cT A kp L) ([.ref h0] : List Value).toArray s 0 0 A) (F0 m 86 ls []) := by
          intro n
          induction n with
          | zero =>
            intro y490 b491 hm H locs ls hW hF hl
            have hz := i32_b y490
            exfalso; omega
          | succ n ih =>
            intro y490 b491 hm H locs ls hW hF hl
            have ih86 := ih
            refine lv_iload_n hx hb dX12_found_86 rfl (lv_at hl 0 rfl) ?_
            refine lv_aload_n hx hb dX12_found_87 rfl (lv_at hl 3 rfl) ?_
            refine fg_RX12_8 E hW rh0 dX12_found_88 (fun a493 m494 r495 => ?_)
            obtain rfl : pR = a493 := (m46).symm.trans m494
            refine lv_iconst (v := 2) hx hb dX12_found_91 (by decide) ?_
            refine gl_822 E hW rR (by decide) dX12_found_92 (fun y496 m497 b498 => ?_)
            obtain rfl : y21 = y496 := (((congrArg (fun z => aI z (2 : Int32).toNatClampNeg) (fm_A g31 rR (by decide) rfl)).trans m22)).symm.trans m497
            refine q_icmp_ge (tgt := 117) hx hb dX12_found_93 (by decide) rfl rfl (fun c499 => ?_) (fun c499 => ?_)
            · refine lv_bipush (v := (-2)) hx hb dX12_found_117 (by decide) ?_
              exact e_I E hW rfl ⟨⟨_, rfl, (by have hk : ((-2) : Int32).toInt = -2 := rfl; first | decide | omega)⟩, hF⟩ dX12_found_119
            · refine lv_iload_n hx hb dX12_found_96 rfl (lv_at hl 2 rfl) ?_
              refine q_i2l hx hb dX12_found_97 rfl (fun x500 h501 => ?_)
              have hb502 : -2147483648 ≤ x500.toInt ∧ x500.toInt ≤ 2147483647 := by have := i32_b x41; omega
              refine lv_iload_n hx hb dX12_found_98 rfl (lv_at hl 0 rfl) ?_
              refine lv_iconst (v := 1) hx hb dX12_found_99 (by decide) ?_
              refine q_iadd (Y := 1) hx hb dX12_found_100 rfl rfl (by omega) (fun x503 h504 => ?_)
              refine q_i2l hx hb dX12_found_101 rfl (fun x505 h506 => ?_)
              refine u_lmul hx hb dX12_found_102 (fun x507 => ?_)
              refine lv_iload_n hx hb dX12_found_103 rfl (lv_at hl 1 rfl) ?_
              refine q_i2l hx hb dX12_found_104 rfl (fun x508 h509 => ?_)
              have hb510 : -2147483648 ≤ x508.toInt ∧ x508.toInt ≤ 2147483647 := by have := i32_b x51; omega
              refine q_lcmp_ne (tgt := 111) hx hb dX12_found_105 dX12_found_106 (by decide) rfl rfl (fun c511 => ?_) (fun c511 => ?_)
              · refine q_iinc hx hb dX12_found_111 hl (k := 0) rfl rfl rfl (by omega) (by decide) (fun i512 ls h513 hl => ?_)
                have hl : lv_has ls 4 [(3, .int i512), (2, .int x51), (1, .int x41), (0, .ref h0)] := hl
                refine lv_goto (tgt := 86) hx hb dX12_found_114 (by decide) ?_
                exact ih86 i512 (by omega) (by omega) _ _ _ hW hF (lv_sub hl [0, 1, 2, 3] rfl)
              · refine lv_iload_n hx hb dX12_found_109 rfl (lv_at hl 0 rfl) ?_
                exact e_I E hW rfl ⟨⟨_, rfl, (by first | omega | trivial)⟩, hF⟩ dX12_found_110
        have hk514 : (0 : Int32).toInt = 0 := rfl
        exact L492 41 0 (by decide) (by omega) _ _ _ hW hF (lv_sub hl [0, 1, 2, 3] rfl)
      · refine lv_iload_n hx hb dX12_found_73 rfl (lv_at hl 0 rfl) ?_
        have J517 : ∀ (y515 : Int32) (b516 : (-2 : Int) ≤ y515.toInt ∧ y515.toInt ≤ -1) (H : Heap) (locs : List Loc) (ls : Array Slot), WS G cI cJ cZ cD cR cT A kp L f29 s H locs → FM kp L ms_X12_found f0 f29 → lv_has ls 4 [(2, .int x51), (1, .int x41), (0, .ref h0)] → W p l e ({ frames := 3, cells := 0, slots := 0, locals := 81 }) s m ([.ref h0] : List Value).toArray below meth c H locs 0 0 (MQ below (QT (po_X12_found kp L f0 h0) G cI cJ cZ cD cR cT A kp L) ([.ref h0] : List Value).toArray s 0 0 A) (F0 m 83 ls [.int y515]) := by
          intro y515 b516 H locs ls hW hF hl
          exact e_I E hW rfl ⟨⟨_, rfl, (by first | omega | trivial)⟩, hF⟩ dX12_found_83
        refine q_if_ne (tgt := 81) hx hb dX12_found_74 (by decide) rfl (fun c518 => ?_) (fun c518 => ?_)
        · refine lv_bipush (v := (-2)) hx hb dX12_found_81 (by decide) ?_
          exact J517 (-2) (by decide) _ _ _ hW hF (lv_sub hl [0, 1, 2] rfl)
        · refine lv_iconst (v := (-1)) hx hb dX12_found_77 (by decide) ?_
          refine lv_goto (tgt := 83) hx hb dX12_found_78 (by decide) ?_
          exact J517 (-1) (by decide) _ _ _ hW hF (lv_sub hl [0, 1, 2] rfl)
    · refine lv_bipush (v := (-2)) hx hb dX12_found_36 (by decide) ?_
      exact e_I E hW rfl ⟨⟨_, rfl, (by have hk : ((-2) : Int32).toInt = -2 := rfl; first | decide | omega)⟩, hF⟩ dX12_found_38
  · refine lv_bipush (v := (-3)) hx hb dX12_found_15 (by decide) ?_
    exact e_I E hW rfl ⟨⟨_, rfl, (by have hk : ((-3) : Int32).toInt = -3 := rfl; first | decide | omega)⟩, hF⟩ dX12_found_17
def ms_X12_count : List (Nat × Nat) := [(12, 0)]
def po_X12_count (kp : Nat → Nat) (L : List Nat) (f0 : Nat → va_E) (h0 : Nat) (u1 : Int32) : Option Value → (Nat → va_E) → Prop := fun v f => (∃ r : Int32, v = some (.int r) ∧ (True)) ∧ FM kp L ms_X12_count f0 f
set_option maxHeartbeats 4000000 in
set_option maxRecDepth 100000 in
theorem c_X12_count (l : Launch) (G : va_G) (cI cJ cZ cD cR cT : ClassId) (kp : Nat → Nat) (L : List Nat) (f0 : Nat → va_E) (hTH : TH cI cJ cZ cD cR cT kp L f0) (sz : Nat) (h0 : Nat) (u1 : Int32) (rh0 : RK kp L h0 12) : Met l yX12_count (Cond.code yX12_count cX12_count 2 (some .int) :: wTab) ({ frames := 1, cells := 0, slots := 0, locals := 40 }) (va_Pc [.ref h0, .int u1] (PreW G (tys6 cI cJ cZ cD cR cT) (va_pl L f0) sz)) (QT (po_X12_count kp L f0 h0 u1) G cI cJ cZ cD cR cT (va_A (va_pl L f0) sz) kp L) 0 0 (va_A (va_pl L f0) sz) := by
  refine metT (by decide) (Nat.le_of_ble_eq_true rfl) hTH ?_
  intro p e s m below meth c A ls E hW hl
  obtain ⟨hx, hb, -, hml, hown, hts, -, -, -⟩ := id E
  have hF : FM kp L ms_X12_count f0 f0 := FM.rf
  have hl : lv_has ls 2 [(0, .ref h0), (1, .int u1)] := hl
  obtain ⟨pR, mR⟩ : ∃ x : Nat, oR (f0 h0) 2 = x := ⟨_, rfl⟩
  have rR : RK kp L pR 822 := by rw [← mR]; exact th_ref hTH rh0 (by decide) (by decide) rfl
  refine lv_aload_n hx hb dX12_count_0 rfl (lv_at hl 0 rfl) ?_
  refine lv_iconst (v := 0) hx hb dX12_count_1 (by decide) ?_
  refine fp_RX12_82 E hW rh0 dX12_count_2 (fun f1 H locs e2 n3 g4 hW => ?_)
  have hF := FM.tr hF g4 rfl
  refine lv_iload_n hx hb dX12_count_5 rfl (lv_at hl 1 rfl) ?_
  by_cases c5 : u1.toInt = 0
  · refine lv_tableIn (tgt := 60) hx hb dX12_count_6 (by omega) (by omega) (by rw [c5]; rfl) (by decide) ?_
    refine lv_aload_n hx hb dX12_count_60 rfl (lv_at hl 0 rfl) ?_
    refine fg_RX12_8 E hW rh0 dX12_count_61 (fun a6 m7 r8 => ?_)
    obtain rfl : pR = a6 := (((fm_R g4 rh0 rfl).trans mR)).symm.trans m7
    refine lv_bipush (v := 8) hx hb dX12_count_64 (by decide) ?_
    refine gl_822 E hW rR (by decide) dX12_count_66 (fun y9 m10 b11 => ?_)
    have b12 := rr_8 (show RowInv _ from b11) m10 (by decide)
    exact e_I E hW rfl ⟨⟨_, rfl, trivial⟩, hF⟩ dX12_count_67
  by_cases c13 : u1.toInt = 1
  · refine lv_tableIn (tgt := 68) hx hb dX12_count_6 (by omega) (by omega) (by rw [c13]; rfl) (by decide) ?_
    refine lv_aload_n hx hb dX12_count_68 rfl (lv_at hl 0 rfl) ?_
    refine fg_RX12_8 E hW rh0 dX12_count_69 (fun a14 m15 r16 => ?_)
    obtain rfl : pR = a14 := (((fm_R g4 rh0 rfl).trans mR)).symm.trans m15
    refine lv_iconst (v := 0) hx hb dX12_count_72 (by decide) ?_
    refine gl_822 E hW rR (by decide) dX12_count_73 (fun y17 m18 b19 => ?_)
    have b20 := rr_0 (show RowInv _ from b19) m18 (by decide)
    exact e_I E hW rfl ⟨⟨_, rfl, trivial⟩, hF⟩ dX12_count_74
  by_cases c21 : u1.toInt = 2
  · refine lv_tableIn (tgt := 75) hx hb dX12_count_6 (by omega) (by omega) (by rw [c21]; rfl) (by decide) ?_
    refine lv_aload_n hx hb dX12_count_75 rfl (lv_at hl 0 rfl) ?_
    refine fg_RX12_8 E hW rh0 dX12_count_76 (fun a22 m23 r24 => ?_)
    obtain rfl : pR = a22 := (((fm_R g4 rh0 rfl).trans mR)).symm.trans m23
    refine lv_iconst (v := 1) hx hb dX12_count_79 (by decide) ?_
    refine gl_822 E hW rR (by decide) dX12_count_80 (fun y25 m26 b27 => ?_)
    have b28 := rr_1 (show RowInv _ from b27) m26 (by decide)
    exact e_I E hW rfl ⟨⟨_, rfl, trivial⟩, hF⟩ dX12_count_81
  by_cases c29 : u1.toInt = 3
  · refine lv_tableIn (tgt := 82) hx hb dX12_count_6 (by omega) (by omega) (by rw [c29]; rfl) (by decide) ?_
    refine lv_aload_n hx hb dX12_count_82 rfl (lv_at hl 0 rfl) ?_
    refine fg_RX12_8 E hW rh0 dX12_count_83 (fun a30 m31 r32 => ?_)
    obtain rfl : pR = a30 := (((fm_R g4 rh0 rfl).trans mR)).symm.trans m31
    refine lv_iconst (v := 2) hx hb dX12_count_86 (by decide) ?_
    refine gl_822 E hW rR (by decide) dX12_count_87 (fun y33 m34 b35 => ?_)
    have b36 := rr_2 (show RowInv _ from b35) m34 (by decide)
    exact e_I E hW rfl ⟨⟨_, rfl, trivial⟩, hF⟩ dX12_count_88
  by_cases c37 : u1.toInt = 4
  · refine lv_tableIn (tgt := 89) hx hb dX12_count_6 (by omega) (by omega) (by rw [c37]; rfl) (by decide) ?_
    refine lv_aload_n hx hb dX12_count_89 rfl (lv_at hl 0 rfl) ?_
    refine fg_RX12_8 E hW rh0 dX12_count_90 (fun a38 m39 r40 => ?_)
    obtain rfl : pR = a38 := (((fm_R g4 rh0 rfl).trans mR)).symm.trans m39
    refine lv_iconst (v := 3) hx hb dX12_count_93 (by decide) ?_
    refine gl_822 E hW rR (by decide) dX12_count_94 (fun y41 m42 b43 => ?_)
    have b44 := rr_3 (show RowInv _ from b43) m42 (by decide)
    exact e_I E hW rfl ⟨⟨_, rfl, trivial⟩, hF⟩ dX12_count_95
  by_cases c45 : u1.toInt = 5
  · refine lv_tableIn (tgt := 96) hx hb dX12_count_6 (by omega) (by omega) (by rw [c45]; rfl) (by decide) ?_
    refine lv_aload_n hx hb dX12_count_96 rfl (lv_at hl 0 rfl) ?_
    refine fg_RX12_8 E hW rh0 dX12_count_97 (fun a46 m47 r48 => ?_)
    obtain rfl : pR = a46 := (((fm_R g4 rh0 rfl).trans mR)).symm.trans m47
    refine lv_iconst (v := 4) hx hb dX12_count_100 (by decide) ?_
    refine gl_822 E hW rR (by decide) dX12_count_101 (fun y49 m50 b51 => ?_)
    have b52 := rr_4 (show RowInv _ from b51) m50 (by decide)
    exact e_I E hW rfl ⟨⟨_, rfl, trivial⟩, hF⟩ dX12_count_102
  by_cases c53 : u1.toInt = 6
  · refine lv_tableIn (tgt := 103) hx hb dX12_count_6 (by omega) (by omega) (by rw [c53]; rfl) (by decide) ?_
    refine lv_aload_n hx hb dX12_count_103 rfl (lv_at hl 0 rfl) ?_
    refine fg_RX12_8 E hW rh0 dX12_count_104 (fun a54 m55 r56 => ?_)
    obtain rfl : pR = a54 := (((fm_R g4 rh0 rfl).trans mR)).symm.trans m55
    refine lv_iconst (v := 5) hx hb dX12_count_107 (by decide) ?_
    refine gl_822 E hW rR (by decide) dX12_count_108 (fun y57 m58 b59 => ?_)
    exact e_I E hW rfl ⟨⟨_, rfl, trivial⟩, hF⟩ dX12_count_109
  by_cases c60 : u1.toInt = 7
  · refine lv_tableIn (tgt := 110) hx hb dX12_count_6 (by omega) (by omega) (by rw [c60]; rfl) (by decide) ?_
    refine lv_aload_n hx hb dX12_count_110 rfl (lv_at hl 0 rfl) ?_
    refine fg_RX12_8 E hW rh0 dX12_count_111 (fun a61 m62 r63 => ?_)
    obtain rfl : pR = a61 := (((fm_R g4 rh0 rfl).trans mR)).symm.trans m62
    refine lv_bipush (v := 6) hx hb dX12_count_114 (by decide) ?_
    refine gl_822 E hW rR (by decide) dX12_count_116 (fun y64 m65 b66 => ?_)
    have b67 := rr_6 (show RowInv _ from b66) m65 (by decide)
    exact e_I E hW rfl ⟨⟨_, rfl, trivial⟩, hF⟩ dX12_count_117
  by_cases c68 : u1.toInt = 8
  · refine lv_tableIn (tgt := 118) hx hb dX12_count_6 (by omega) (by omega) (by rw [c68]; rfl) (by decide) ?_
    refine lv_aload_n hx hb dX12_count_118 rfl (lv_at hl 0 rfl) ?_
    refine fg_RX12_446 E hW rh0 dX12_count_119 (fun y69 m70 b71 => ?_)
    exact e_I E hW rfl ⟨⟨_, rfl, trivial⟩, hF⟩ dX12_count_122
  by_cases c72 : u1.toInt = 9
  · refine lv_tableIn (tgt := 123) hx hb dX12_count_6 (by omega) (by omega) (by rw [c72]; rfl) (by decide) ?_
    refine lv_aload_n hx hb dX12_count_123 rfl (lv_at hl 0 rfl) ?_
    refine fg_RX12_174 E hW rh0 dX12_count_124 (fun y73 m74 b75 => ?_)
    exact e_I E hW rfl ⟨⟨_, rfl, trivial⟩, hF⟩ dX12_count_127
  refine lv_tableOut (tgt := 128) hx hb dX12_count_6 (by omega) (by decide) ?_
  refine lv_iconst (v := (-1)) hx hb dX12_count_128 (by decide) ?_
  exact e_I E hW rfl ⟨⟨_, rfl, trivial⟩, hF⟩ dX12_count_129
def ms_X12_status : List (Nat × Nat) := [(12, 0)]
def po_X12_status (kp : Nat → Nat) (L : List Nat) (f0 : Nat → va_E) (h0 : Nat) : Option Value → (Nat → va_E) → Prop := fun v f => (∃ r : Int32, v = some (.int r) ∧ (True)) ∧ FM kp L ms_X12_status f0 f
set_option maxHeartbeats 4000000 in
set_option maxRecDepth 100000 in
theorem c_X12_status (l : Launch) (G : va_G) (cI cJ cZ cD cR cT : ClassId) (kp : Nat → Nat) (L : List Nat) (f0 : Nat → va_E) (hTH : TH cI cJ cZ cD cR cT kp L f0) (sz : Nat) (h0 : Nat) (rh0 : RK kp L h0 12) : Met l yX12_status (Cond.code yX12_status cX12_status 1 (some .int) :: wTab) ({ frames := 1, cells := 0, slots := 0, locals := 40 }) (va_Pc [.ref h0] (PreW G (tys6 cI cJ cZ cD cR cT) (va_pl L f0) sz)) (QT (po_X12_status kp L f0 h0) G cI cJ cZ cD cR cT (va_A (va_pl L f0) sz) kp L) 0 0 (va_A (va_pl L f0) sz) := by
  refine metT (by decide) (Nat.le_of_ble_eq_true rfl) hTH ?_
  intro p e s m below meth c A ls E hW hl
  obtain ⟨hx, hb, -, hml, hown, hts, -, -, -⟩ := id E
  have hF : FM kp L ms_X12_status f0 f0 := FM.rf
  have hl : lv_has ls 1 [(0, .ref h0)] := hl
  obtain ⟨pR, mR⟩ : ∃ x : Nat, oR (f0 h0) 2 = x := ⟨_, rfl⟩
  have rR : RK kp L pR 822 := by rw [← mR]; exact th_ref hTH rh0 (by decide) (by decide) rfl
  refine lv_aload_n hx hb dX12_status_0 rfl (lv_at hl 0 rfl) ?_
  refine lv_iconst (v := 0) hx hb dX12_status_1 (by decide) ?_
  refine fp_RX12_82 E hW rh0 dX12_status_2 (fun f1 H locs e2 n3 g4 hW => ?_)
  have hF := FM.tr hF g4 rfl
  refine lv_aload_n hx hb dX12_status_5 rfl (lv_at hl 0 rfl) ?_
  refine fg_RX12_85 E hW rh0 dX12_status_6 (fun y5 m6 => ?_)
  exact e_I E hW rfl ⟨⟨_, rfl, trivial⟩, hF⟩ dX12_status_9
def ms_X12_reckon : List (Nat × Nat) := [(12, 33)]
def po_X12_reckon (kp : Nat → Nat) (L : List Nat) (f0 : Nat → va_E) (h0 : Nat) (u1 : Int32) (u2 : Int64) (u3 : Int64) : Option Value → (Nat → va_E) → Prop := fun v f => (∃ r : Int64, v = some (.long r) ∧ (True)) ∧ FM kp L ms_X12_reckon f0 f
set_option maxHeartbeats 4000000 in
set_option maxRecDepth 100000 in
theorem c_X12_reckon (l : Launch) (G : va_G) (cI cJ cZ cD cR cT : ClassId) (kp : Nat → Nat) (L : List Nat) (f0 : Nat → va_E) (hTH : TH cI cJ cZ cD cR cT kp L f0) (sz : Nat) (h0 : Nat) (u1 : Int32) (u2 : Int64) (u3 : Int64) (rh0 : RK kp L h0 12) (pu1 : (20 : Int) ≤ u1.toInt ∧ u1.toInt ≤ 26) : Met l yX12_reckon (Cond.code yX12_reckon cX12_reckon 6 (some .long) :: wTab) ({ frames := 1, cells := 0, slots := 0, locals := 40 }) (va_Pc [.ref h0, .int u1, .long u2, .long u3] (PreW G (tys6 cI cJ cZ cD cR cT) (va_pl L f0) sz)) (QT (po_X12_reckon kp L f0 h0 u1 u2 u3) G cI cJ cZ cD cR cT (va_A (va_pl L f0) sz) kp L) 0 0 (va_A (va_pl L f0) sz) := by
  refine metT (by decide) (Nat.le_of_ble_eq_true rfl) hTH ?_
  intro p e s m below meth c A ls E hW hl
  obtain ⟨hx, hb, -, hml, hown, hts, -, -, -⟩ := id E
  have hF : FM kp L ms_X12_reckon f0 f0 := FM.rf
  have hl : lv_has ls 6 [(0, .ref h0), (1, .int u1), (2, .long u2), (4, .long u3)] := hl
  obtain ⟨pR, mR⟩ : ∃ x : Nat, oR (f0 h0) 2 = x := ⟨_, rfl⟩
  have rR : RK kp L pR 822 := by rw [← mR]; exact th_ref hTH rh0 (by decide) (by decide) rfl
  refine lv_iload_n hx hb dX12_reckon_0 rfl (lv_at hl 1 rfl) ?_
  by_cases c1 : u1.toInt = 20
  · refine lv_tableIn (tgt := 40) hx hb dX12_reckon_1 (by omega) (by omega) (by rw [c1]; rfl) (by decide) ?_
    refine lv_lload_n hx hb dX12_reckon_40 rfl (lv_at hl 2 rfl) ?_
    refine lv_lload hx hb dX12_reckon_41 (lv_at hl 3 rfl) ?_
    refine u_ladd hx hb dX12_reckon_43 (fun x2 => ?_)
    exact e_J E hW rfl ⟨⟨_, rfl, trivial⟩, hF⟩ dX12_reckon_44
  by_cases c3 : u1.toInt = 21
  · refine lv_tableIn (tgt := 45) hx hb dX12_reckon_1 (by omega) (by omega) (by rw [c3]; rfl) (by decide) ?_
    refine lv_lload_n hx hb dX12_reckon_45 rfl (lv_at hl 2 rfl) ?_
    refine lv_lload hx hb dX12_reckon_46 (lv_at hl 3 rfl) ?_
    refine u_lsub hx hb dX12_reckon_48 (fun x4 => ?_)
    exact e_J E hW rfl ⟨⟨_, rfl, trivial⟩, hF⟩ dX12_reckon_49
  by_cases c5 : u1.toInt = 22
  · refine lv_tableIn (tgt := 50) hx hb dX12_reckon_1 (by omega) (by omega) (by rw [c5]; rfl) (by decide) ?_
    refine lv_lload_n hx hb dX12_reckon_50 rfl (lv_at hl 2 rfl) ?_
    refine lv_lload hx hb dX12_reckon_51 (lv_at hl 3 rfl) ?_
    refine u_lmul hx hb dX12_reckon_53 (fun x6 => ?_)
    exact e_J E hW rfl ⟨⟨_, rfl, trivial⟩, hF⟩ dX12_reckon_54
  by_cases c7 : u1.toInt = 23
  · refine lv_tableIn (tgt := 55) hx hb dX12_reckon_1 (by omega) (by omega) (by rw [c7]; rfl) (by decide) ?_
    refine lv_aload_n hx hb dX12_reckon_55 rfl (lv_at hl 0 rfl) ?_
    refine lv_lload hx hb dX12_reckon_56 (lv_at hl 3 rfl) ?_
    refine lv_lconst (v := 0) hx hb dX12_reckon_58 (by decide) ?_
    refine q_lcmp_ne (Y := 0) (tgt := 67) hx hb dX12_reckon_59 dX12_reckon_60 (by decide) rfl rfl (fun c8 => ?_) (fun c8 => ?_)
    · refine lv_iconst (v := 0) hx hb dX12_reckon_67 (by decide) ?_
      refine fp_RX12_406 E hW rh0 (by decide) dX12_reckon_68 (fun f9 H locs e10 n11 g12 hW => ?_)
      have hF := FM.tr hF g12 rfl
      refine lv_aload_n hx hb dX12_reckon_71 rfl (lv_at hl 0 rfl) ?_
      refine fg_RX12_406 E hW rh0 dX12_reckon_72 (fun y13 m14 b15 => ?_)
      obtain rfl : 0 = y13 := (e10).symm.trans m14
      refine q_if_eq (X := 0) (tgt := 82) hx hb dX12_reckon_75 (by decide) rfl (fun _ => ?_) (fun c => absurd c (by decide))
      refine lv_lload_n hx hb dX12_reckon_82 rfl (lv_at hl 2 rfl) ?_
      refine lv_lload hx hb dX12_reckon_83 (lv_at hl 3 rfl) ?_
      refine u_ldiv hx hb dX12_reckon_85 (by omega) (fun x16 => ?_)
      exact e_J E hW rfl ⟨⟨_, rfl, trivial⟩, hF⟩ dX12_reckon_86
    · refine lv_iconst (v := 1) hx hb dX12_reckon_63 (by decide) ?_
      refine lv_goto (tgt := 68) hx hb dX12_reckon_64 (by decide) ?_
      refine fp_RX12_406 E hW rh0 (by decide) dX12_reckon_68 (fun f17 H locs e18 n19 g20 hW => ?_)
      have hF := FM.tr hF g20 rfl
      refine lv_aload_n hx hb dX12_reckon_71 rfl (lv_at hl 0 rfl) ?_
      refine fg_RX12_406 E hW rh0 dX12_reckon_72 (fun y21 m22 b23 => ?_)
      obtain rfl : 1 = y21 := (e18).symm.trans m22
      refine q_if_eq (X := 1) (tgt := 82) hx hb dX12_reckon_75 (by decide) rfl (fun c => absurd c (by decide)) (fun _ => ?_)
      refine lv_lconst (v := 0) hx hb dX12_reckon_78 (by decide) ?_
      refine lv_goto (tgt := 86) hx hb dX12_reckon_79 (by decide) ?_
      exact e_J E hW rfl ⟨⟨_, rfl, trivial⟩, hF⟩ dX12_reckon_86
  by_cases c24 : u1.toInt = 24
  · refine lv_tableIn (tgt := 87) hx hb dX12_reckon_1 (by omega) (by omega) (by rw [c24]; rfl) (by decide) ?_
    refine lv_lload_n hx hb dX12_reckon_87 rfl (lv_at hl 2 rfl) ?_
    refine lv_lload hx hb dX12_reckon_88 (lv_at hl 3 rfl) ?_
    refine q_lcmp_ge (tgt := 98) hx hb dX12_reckon_90 dX12_reckon_91 (by decide) rfl rfl (fun c25 => ?_) (fun c25 => ?_)
    · refine lv_lconst (v := 0) hx hb dX12_reckon_98 (by decide) ?_
      exact e_J E hW rfl ⟨⟨_, rfl, trivial⟩, hF⟩ dX12_reckon_99
    · refine lv_lconst (v := 1) hx hb dX12_reckon_94 (by decide) ?_
      refine lv_goto (tgt := 99) hx hb dX12_reckon_95 (by decide) ?_
      exact e_J E hW rfl ⟨⟨_, rfl, trivial⟩, hF⟩ dX12_reckon_99
  by_cases c26 : u1.toInt = 25
  · refine lv_tableIn (tgt := 100) hx hb dX12_reckon_1 (by omega) (by omega) (by rw [c26]; rfl) (by decide) ?_
    refine lv_lload_n hx hb dX12_reckon_100 rfl (lv_at hl 2 rfl) ?_
    refine lv_lload hx hb dX12_reckon_101 (lv_at hl 3 rfl) ?_
    refine q_lcmp_le (tgt := 111) hx hb dX12_reckon_103 dX12_reckon_104 (by decide) rfl rfl (fun c27 => ?_) (fun c27 => ?_)
    · refine lv_lconst (v := 0) hx hb dX12_reckon_111 (by decide) ?_
      exact e_J E hW rfl ⟨⟨_, rfl, trivial⟩, hF⟩ dX12_reckon_112
    · refine lv_lconst (v := 1) hx hb dX12_reckon_107 (by decide) ?_
      refine lv_goto (tgt := 112) hx hb dX12_reckon_108 (by decide) ?_
      exact e_J E hW rfl ⟨⟨_, rfl, trivial⟩, hF⟩ dX12_reckon_112
  refine lv_tableOut (tgt := 113) hx hb dX12_reckon_1 (by omega) (by decide) ?_
  refine lv_lload_n hx hb dX12_reckon_113 rfl (lv_at hl 2 rfl) ?_
  refine lv_lload hx hb dX12_reckon_114 (lv_at hl 3 rfl) ?_
  refine q_lcmp_ne (tgt := 124) hx hb dX12_reckon_116 dX12_reckon_117 (by decide) rfl rfl (fun c28 => ?_) (fun c28 => ?_)
  · refine lv_lconst (v := 0) hx hb dX12_reckon_124 (by decide) ?_
    exact e_J E hW rfl ⟨⟨_, rfl, trivial⟩, hF⟩ dX12_reckon_125
  · refine lv_lconst (v := 1) hx hb dX12_reckon_120 (by decide) ?_
    refine lv_goto (tgt := 125) hx hb dX12_reckon_121 (by decide) ?_
    exact e_J E hW rfl ⟨⟨_, rfl, trivial⟩, hF⟩ dX12_reckon_125
def ms_X12_four : List (Nat × Nat) := [(12, 12), (831, 0)]
def po_X12_four (kp : Nat → Nat) (L : List Nat) (f0 : Nat → va_E) (h0 : Nat) (u1 : Int32) : Option Value → (Nat → va_E) → Prop := fun v f => v = none ∧ FM kp L ms_X12_four f0 f ∧ ((oI (f h0) 12).toInt = (oI (f0 h0) 12).toInt + 4)
set_option maxHeartbeats 4000000 in
set_option maxRecDepth 100000 in
theorem c_X12_four (l : Launch) (G : va_G) (cI cJ cZ cD cR cT : ClassId) (kp : Nat → Nat) (L : List Nat) (f0 : Nat → va_E) (hTH : TH cI cJ cZ cD cR cT kp L f0) (sz : Nat) (h0 : Nat) (u1 : Int32) (rh0 : RK kp L h0 12) (hq1 : (oI (f0 h0) 12).toInt ≤ 396) : Met l yX12_four (Cond.code yX12_four cX12_four 3 none :: wTab) ({ frames := 1, cells := 0, slots := 0, locals := 40 }) (va_Pc [.ref h0, .int u1] (PreW G (tys6 cI cJ cZ cD cR cT) (va_pl L f0) sz)) (QT (po_X12_four kp L f0 h0 u1) G cI cJ cZ cD cR cT (va_A (va_pl L f0) sz) kp L) 0 0 (va_A (va_pl L f0) sz) := by
  refine metT (by decide) (Nat.le_of_ble_eq_true rfl) hTH ?_
  intro p e s m below meth c A ls E hW hl
  obtain ⟨hx, hb, -, hml, hown, hts, -, -, -⟩ := id E
  have hF : FM kp L ms_X12_four f0 f0 := FM.rf
  have hl : lv_has ls 3 [(0, .ref h0), (1, .int u1)] := hl
  obtain ⟨pR, mR⟩ : ∃ x : Nat, oR (f0 h0) 2 = x := ⟨_, rfl⟩
  have rR : RK kp L pR 822 := by rw [← mR]; exact th_ref hTH rh0 (by decide) (by decide) rfl
  obtain ⟨pF12, mF12⟩ : ∃ x : Int32, oI (f0 h0) 12 = x := ⟨_, rfl⟩
  have bF12 : (0 : Int) ≤ pF12.toInt ∧ pF12.toInt ≤ 400 := by rw [← mF12]; exact th_iv hW rh0 (by decide) (by decide) rfl
  rw [mF12] at hq1
  refine lv_bipush (v := 24) hx hb dX12_four_0 (by decide) ?_
  refine lv_istore_n (lv' := [(2, .int 24), (0, .ref h0), (1, .int u1)]) hx hb dX12_four_2 rfl hl (by decide) rfl (fun ls hl => ?_)
  have L174 : ∀ (n : Nat), ∀ (f166 : Nat → va_E) (y168 : Int32) (y170 : Int32) (m167 : oR (f166 h0) 2 = pR) (b169 : (-8 : Int) ≤ y168.toInt ∧ y168.toInt ≤ 24) (m171 : oI (f166 h0) 12 = y170) (b172 : (0 : Int) ≤ y170.toInt ∧ y170.toInt ≤ 400) (v173 : 8 * y170.toInt + y168.toInt = 24 + 8 * pF12.toInt) (hm : y168.toInt - (-9 : Int) ≤ n) (H : Heap) (locs : List Loc) (ls : Array Slot), WS G cI cJ cZ cD cR cT A kp L f166 s H locs → FM kp L ms_X12_four f0 f166 → lv_has ls 3 [(2, .int y168), (0, .ref h0), (1, .int u1)] → W p l e ({ frames := 1, cells := 0, slots := 0, locals := 40 }) s m ([.ref h0, .int u1] : List Value).toArray below meth c H locs 0 0 (MQ below (QT (po_X12_four kp L f0 h0 u1) G cI cJ cZ cD cR cT A kp L) ([.ref h0, .int u1] : List Value).toArray s 0 0 A) (F0 m 3 ls []) := by
    intro n
    induction n with
    | zero =>
      intro f166 y168 y170 m167 b169 m171 b172 v173 hm H locs ls hW hF hl
      have hz := i32_b y168
      exfalso; omega
    | succ n ih =>
      intro f166 y168 y170 m167 b169 m171 b172 v173 hm H locs ls hW hF hl
      have ih3 := ih
      refine lv_iload_n hx hb dX12_four_3 rfl (lv_at hl 0 rfl) ?_
      refine q_if_lt (tgt := 39) hx hb dX12_four_4 (by decide) rfl (fun c199 => ?_) (fun c199 => ?_)
      · exact e_V E hW rfl ⟨rfl, hF, (by rw [m171, mF12]; omega)⟩ dX12_four_39
      · refine lv_aload_n hx hb dX12_four_7 rfl (lv_at hl 1 rfl) ?_
        refine fg_RX12_32 E hW rh0 dX12_four_8 (fun a200 m201 r202 => ?_)
        refine lv_aload_n hx hb dX12_four_11 rfl (lv_at hl 1 rfl) ?_
        refine fg_RX12_174 E hW rh0 dX12_four_12 (fun y203 m204 b205 => ?_)
        obtain rfl : y170 = y203 := (m171).symm.trans m204
        refine lv_iload_n hx hb dX12_four_15 rfl (lv_at hl 2 rfl) ?_
        refine lv_iload_n hx hb dX12_four_16 rfl (lv_at hl 0 rfl) ?_
        refine u_ishr hx hb dX12_four_17 (fun x206 => ?_)
        refine lv_sipush (v := 255) hx hb dX12_four_18 (by decide) ?_
        refine q_iand (M := 255) (k := 8) hx hb dX12_four_21 (by decide) (by decide) (by decide) (fun x207 h208 => ?_)
        refine gs_831 E hW r202 ⟨by omega, by omega⟩ dX12_four_22 (fun f209 H locs e210 n211 g212 hW => ?_)
        have hF := FM.tr hF g212 rfl
        refine lv_aload_n hx hb dX12_four_23 rfl (lv_at hl 1 rfl) ?_
        refine lv_dup hx hb dX12_four_24 rfl ?_
        refine fg_RX12_174 E hW rh0 dX12_four_25 (fun y213 m214 b215 => ?_)
        obtain rfl : y170 = y213 := (((fm_I g212 rh0 rfl).trans m204)).symm.trans m214
        refine lv_iconst (v := 1) hx hb dX12_four_28 (by decide) ?_
        refine q_iadd (Y := 1) hx hb dX12_four_29 rfl rfl (by omega) (fun x216 h217 => ?_)
        refine fp_RX12_174 E hW rh0 (by omega) dX12_four_30 (fun f218 H locs e219 n220 g221 hW => ?_)
        have m222 : aI (f218 a200) (y170 : Int32).toNatClampNeg = x207 := ((congrArg (fun z => aI z (y170 : Int32).toNatClampNeg) (fm_A g221 r202 (by decide) rfl)).trans (show aI (f209 a200) (y170 : Int32).toNatClampNeg = x207 from by rw [e210]; exact up_s))
        have hF := FM.tr hF g221 rfl
        refine q_iinc hx hb dX12_four_33 hl (k := 0) rfl rfl rfl (by omega) (by decide) (fun i223 ls h224 hl => ?_)
        have hl : lv_has ls 3 [(2, .int i223), (0, .ref h0), (1, .int u1)] := hl
        refine lv_goto (tgt := 3) hx hb dX12_four_36 (by decide) ?_
        exact ih3 f218 i223 x216 ((fm_R g221 rh0 rfl).trans ((fm_R g212 rh0 rfl).trans m167)) (by omega) e219 (by first | omega | decide | trivial) (by omega) (by omega) _ _ _ hW hF (lv_sub hl [0, 1, 2] rfl)
  have hk225 : (24 : Int32).toInt = 24 := rfl
  exact L174 33 f0 24 pF12 mR (by decide) mF12 (by first | omega | decide | trivial) (by omega) (by omega) _ _ _ hW hF (lv_sub hl [0, 1, 2] rfl)
def ms_X12_feed : List (Nat × Nat) := [(12, 0), (12, 12), (831, 0)]
def po_X12_feed (kp : Nat → Nat) (L : List Nat) (f0 : Nat → va_E) (h0 : Nat) (u1 : Int32) (u2 : Int32) (u3 : Int32) (u4 : Int32) (u5 : Int32) : Option Value → (Nat → va_E) → Prop := fun v f => (∃ r : Int32, v = some (.int r) ∧ ((-1 : Int) ≤ r.toInt ∧ r.toInt ≤ 400)) ∧ FM kp L ms_X12_feed f0 f
set_option maxHeartbeats 4000000 in
set_option maxRecDepth 100000 in
theorem c_X12_feed (l : Launch) (G : va_G) (cI cJ cZ cD cR cT : ClassId) (kp : Nat → Nat) (L : List Nat) (f0 : Nat → va_E) (hTH : TH cI cJ cZ cD cR cT kp L f0) (sz : Nat) (h0 : Nat) (u1 : Int32) (u2 : Int32) (u3 : Int32) (u4 : Int32) (u5 : Int32) (rh0 : RK kp L h0 12) : Met l yX12_feed (Cond.code yX12_feed cX12_feed 6 (some .int) :: wTab) ({ frames := 2, cells := 0, slots := 0, locals := 62 }) (va_Pc [.ref h0, .int u1, .int u2, .int u3, .int u4, .int u5] (PreW G (tys6 cI cJ cZ cD cR cT) (va_pl L f0) sz)) (QT (po_X12_feed kp L f0 h0 u1 u2 u3 u4 u5) G cI cJ cZ cD cR cT (va_A (va_pl L f0) sz) kp L) 0 0 (va_A (va_pl L f0) sz) := by
  refine metT (by decide) (Nat.le_of_ble_eq_true rfl) hTH ?_
  intro p e s m below meth c A ls E hW hl
  obtain ⟨hx, hb, -, hml, hown, hts, -, -, -⟩ := id E
  have hF : FM kp L ms_X12_feed f0 f0 := FM.rf
  have hl : lv_has ls 6 [(0, .ref h0), (1, .int u1), (2, .int u2), (3, .int u3), (4, .int u4), (5, .int u5)] := hl
  obtain ⟨pR, mR⟩ : ∃ x : Nat, oR (f0 h0) 2 = x := ⟨_, rfl⟩
  have rR : RK kp L pR 822 := by rw [← mR]; exact th_ref hTH rh0 (by decide) (by decide) rfl
  refine lv_aload_n hx hb dX12_feed_0 rfl (lv_at hl 0 rfl) ?_
  refine lv_iconst (v := 0) hx hb dX12_feed_1 (by decide) ?_
  refine fp_RX12_82 E hW rh0 dX12_feed_2 (fun f1 H locs e2 n3 g4 hW => ?_)
  have hF := FM.tr hF g4 rfl
  refine lv_aload_n hx hb dX12_feed_5 rfl (lv_at hl 0 rfl) ?_
  refine fg_RX12_174 E hW rh0 dX12_feed_6 (fun y5 m6 b7 => ?_)
  refine lv_bipush (v := 20) hx hb dX12_feed_9 (by decide) ?_
  refine q_iadd (Y := 20) hx hb dX12_feed_11 rfl rfl (by omega) (fun x8 h9 => ?_)
  refine lv_sipush (v := 400) hx hb dX12_feed_12 (by decide) ?_
  refine q_icmp_le (Y := 400) (tgt := 20) hx hb dX12_feed_15 (by decide) rfl rfl (fun c10 => ?_) (fun c10 => ?_)
  · refine lv_aload_n hx hb dX12_feed_20 rfl (lv_at hl 0 rfl) ?_
    refine lv_iload_n hx hb dX12_feed_21 rfl (lv_at hl 1 rfl) ?_
    refine t_callV (As := [.int u1]) (rest := []) E hW (c_X12_four l G cI cJ cZ cD cR cT kp L f1 hW.2.2.2 _ h0 u1 rh0 (by rw [m6]; omega)) rh0 (by decide) rfl wk_X12_four tw_1749 rfl ⟨Nat.le_of_ble_eq_true rfl, Nat.le_of_ble_eq_true rfl⟩ ⟨rfl, rfl⟩ hl.1 rfl (Nat.le_of_ble_eq_true rfl) dX12_feed_22 ⟨Nat.le_of_ble_eq_true rfl, Nat.le_of_ble_eq_true rfl⟩ (fun v11 f12 H locs q13 hW => ?_)
    obtain ⟨rfl, g14, h15⟩ := q13
    have hF := FM.tr hF g14 rfl
    obtain ⟨y16, m17⟩ : ∃ x : Int32, oI (f12 h0) 12 = x := ⟨_, rfl⟩
    have b18 : (0 : Int) ≤ y16.toInt ∧ y16.toInt ≤ 400 := by rw [← m17]; exact th_iv hW rh0 (by decide) (by decide) rfl
    simp only [m17, m6] at h15
    refine lv_aload_n hx hb dX12_feed_25 rfl (lv_at hl 0 rfl) ?_
    refine lv_iload_n hx hb dX12_feed_26 rfl (lv_at hl 2 rfl) ?_
    refine t_callV (As := [.int u2]) (rest := []) E hW (c_X12_four l G cI cJ cZ cD cR cT kp L f12 hW.2.2.2 _ h0 u2 rh0 (by rw [m17]; omega)) rh0 (by decide) rfl wk_X12_four tw_1749 rfl ⟨Nat.le_of_ble_eq_true rfl, Nat.le_of_ble_eq_true rfl⟩ ⟨rfl, rfl⟩ hl.1 rfl (Nat.le_of_ble_eq_true rfl) dX12_feed_27 ⟨Nat.le_of_ble_eq_true rfl, Nat.le_of_ble_eq_true rfl⟩ (fun v19 f20 H locs q21 hW => ?_)
    obtain ⟨rfl, g22, h23⟩ := q21
    have hF := FM.tr hF g22 rfl
    obtain ⟨y24, m25⟩ : ∃ x : Int32, oI (f20 h0) 12 = x := ⟨_, rfl⟩
    have b26 : (0 : Int) ≤ y24.toInt ∧ y24.toInt ≤ 400 := by rw [← m25]; exact th_iv hW rh0 (by decide) (by decide) rfl
    simp only [m25, m17] at h23
    refine lv_aload_n hx hb dX12_feed_30 rfl (lv_at hl 0 rfl) ?_
    refine lv_iload_n hx hb dX12_feed_31 rfl (lv_at hl 3 rfl) ?_
    refine t_callV (As := [.int u3]) (rest := []) E hW (c_X12_four l G cI cJ cZ cD cR cT kp L f20 hW.2.2.2 _ h0 u3 rh0 (by rw [m25]; omega)) rh0 (by decide) rfl wk_X12_four tw_1749 rfl ⟨Nat.le_of_ble_eq_true rfl, Nat.le_of_ble_eq_true rfl⟩ ⟨rfl, rfl⟩ hl.1 rfl (Nat.le_of_ble_eq_true rfl) dX12_feed_32 ⟨Nat.le_of_ble_eq_true rfl, Nat.le_of_ble_eq_true rfl⟩ (fun v27 f28 H locs q29 hW => ?_)
    obtain ⟨rfl, g30, h31⟩ := q29
    have hF := FM.tr hF g30 rfl
    obtain ⟨y32, m33⟩ : ∃ x : Int32, oI (f28 h0) 12 = x := ⟨_, rfl⟩
    have b34 : (0 : Int) ≤ y32.toInt ∧ y32.toInt ≤ 400 := by rw [← m33]; exact th_iv hW rh0 (by decide) (by decide) rfl
    simp only [m33, m25] at h31
    refine lv_aload_n hx hb dX12_feed_35 rfl (lv_at hl 0 rfl) ?_
    refine lv_iload hx hb dX12_feed_36 (lv_at hl 4 rfl) ?_
    refine t_callV (As := [.int u4]) (rest := []) E hW (c_X12_four l G cI cJ cZ cD cR cT kp L f28 hW.2.2.2 _ h0 u4 rh0 (by rw [m33]; omega)) rh0 (by decide) rfl wk_X12_four tw_1749 rfl ⟨Nat.le_of_ble_eq_true rfl, Nat.le_of_ble_eq_true rfl⟩ ⟨rfl, rfl⟩ hl.1 rfl (Nat.le_of_ble_eq_true rfl) dX12_feed_38 ⟨Nat.le_of_ble_eq_true rfl, Nat.le_of_ble_eq_true rfl⟩ (fun v35 f36 H locs q37 hW => ?_)
    obtain ⟨rfl, g38, h39⟩ := q37
    have hF := FM.tr hF g38 rfl
    obtain ⟨y40, m41⟩ : ∃ x : Int32, oI (f36 h0) 12 = x := ⟨_, rfl⟩
    have b42 : (0 : Int) ≤ y40.toInt ∧ y40.toInt ≤ 400 := by rw [← m41]; exact th_iv hW rh0 (by decide) (by decide) rfl
    simp only [m41, m33] at h39
    refine lv_aload_n hx hb dX12_feed_41 rfl (lv_at hl 0 rfl) ?_
    refine lv_iload hx hb dX12_feed_42 (lv_at hl 5 rfl) ?_
    refine t_callV (As := [.int u5]) (rest := []) E hW (c_X12_four l G cI cJ cZ cD cR cT kp L f36 hW.2.2.2 _ h0 u5 rh0 (by rw [m41]; omega)) rh0 (by decide) rfl wk_X12_four tw_1749 rfl ⟨Nat.le_of_ble_eq_true rfl, Nat.le_of_ble_eq_true rfl⟩ ⟨rfl, rfl⟩ hl.1 rfl (Nat.le_of_ble_eq_true rfl) dX12_feed_44 ⟨Nat.le_of_ble_eq_true rfl, Nat.le_of_ble_eq_true rfl⟩ (fun v43 f44 H locs q45 hW => ?_)
    obtain ⟨rfl, g46, h47⟩ := q45
    have hF := FM.tr hF g46 rfl
    obtain ⟨y48, m49⟩ : ∃ x : Int32, oI (f44 h0) 12 = x := ⟨_, rfl⟩
    have b50 : (0 : Int) ≤ y48.toInt ∧ y48.toInt ≤ 400 := by rw [← m49]; exact th_iv hW rh0 (by decide) (by decide) rfl
    simp only [m49, m41] at h47
    refine lv_aload_n hx hb dX12_feed_47 rfl (lv_at hl 0 rfl) ?_
    refine fg_RX12_174 E hW rh0 dX12_feed_48 (fun y51 m52 b53 => ?_)
    obtain rfl : y48 = y51 := (m49).symm.trans m52
    exact e_I E hW rfl ⟨⟨_, rfl, (by first | omega | trivial)⟩, hF⟩ dX12_feed_51
  · refine lv_iconst (v := (-1)) hx hb dX12_feed_18 (by decide) ?_
    exact e_I E hW rfl ⟨⟨_, rfl, (by have hk : ((-1) : Int32).toInt = -1 := rfl; first | decide | omega)⟩, hF⟩ dX12_feed_19
