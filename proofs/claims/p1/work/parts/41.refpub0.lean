theorem dX12_person_0 : decode cX12_person 0 = .ok (.aload_n 0, 1) := by decide +kernel
theorem dX12_person_1 : decode cX12_person 1 = .ok (.iconst 0, 1) := by decide +kernel
theorem dX12_person_2 : decode cX12_person 2 = .ok (.putfield 82, 3) := by decide +kernel
theorem dX12_person_5 : decode cX12_person 5 = .ok (.iload_n 1, 1) := by decide +kernel
theorem dX12_person_6 : decode cX12_person 6 = .ok (.i2l, 1) := by decide +kernel
theorem dX12_person_7 : decode cX12_person 7 = .ok (.lconst 0, 1) := by decide +kernel
theorem dX12_person_8 : decode cX12_person 8 = .ok (.ldc2_w 98, 3) := by decide +kernel
theorem dX12_person_11 : decode cX12_person 11 = .ok (.invokestatic 90, 3) := by decide +kernel
theorem dX12_person_14 : decode cX12_person 14 = .ok (.ifCond .eq 27, 3) := by decide +kernel
theorem dX12_person_17 : decode cX12_person 17 = .ok (.iload_n 2, 1) := by decide +kernel
theorem dX12_person_18 : decode cX12_person 18 = .ok (.i2l, 1) := by decide +kernel
theorem dX12_person_19 : decode cX12_person 19 = .ok (.lconst 0, 1) := by decide +kernel
theorem dX12_person_20 : decode cX12_person 20 = .ok (.ldc2_w 100, 3) := by decide +kernel
theorem dX12_person_23 : decode cX12_person 23 = .ok (.invokestatic 90, 3) := by decide +kernel
theorem dX12_person_26 : decode cX12_person 26 = .ok (.ifCond .eq 15, 3) := by decide +kernel
theorem dX12_person_29 : decode cX12_person 29 = .ok (.iload_n 3, 1) := by decide +kernel
theorem dX12_person_30 : decode cX12_person 30 = .ok (.i2l, 1) := by decide +kernel
theorem dX12_person_31 : decode cX12_person 31 = .ok (.lconst 0, 1) := by decide +kernel
theorem dX12_person_32 : decode cX12_person 32 = .ok (.ldc2_w 102, 3) := by decide +kernel
theorem dX12_person_35 : decode cX12_person 35 = .ok (.invokestatic 90, 3) := by decide +kernel
theorem dX12_person_38 : decode cX12_person 38 = .ok (.ifCond .ne 9, 3) := by decide +kernel
theorem dX12_person_47 : decode cX12_person 47 = .ok (.aload_n 0, 1) := by decide +kernel
theorem dX12_person_48 : decode cX12_person 48 = .ok (.getfield 8, 3) := by decide +kernel
theorem dX12_person_51 : decode cX12_person 51 = .ok (.iconst 0, 1) := by decide +kernel
theorem dX12_person_52 : decode cX12_person 52 = .ok (.iaload, 1) := by decide +kernel
theorem dX12_person_53 : decode cX12_person 53 = .ok (.bipush 40, 2) := by decide +kernel
theorem dX12_person_55 : decode cX12_person 55 = .ok (.if_icmp .ne 10, 3) := by decide +kernel
theorem dX12_person_65 : decode cX12_person 65 = .ok (.aload_n 0, 1) := by decide +kernel
theorem dX12_person_66 : decode cX12_person 66 = .ok (.getfield 8, 3) := by decide +kernel
theorem dX12_person_69 : decode cX12_person 69 = .ok (.iconst 0, 1) := by decide +kernel
theorem dX12_person_70 : decode cX12_person 70 = .ok (.iaload, 1) := by decide +kernel
theorem dX12_person_71 : decode cX12_person 71 = .ok (.invokestatic 104, 3) := by decide +kernel
theorem dX12_personAt_0 : decode cX12_personAt 0 = .ok (.bipush 20, 2) := by decide +kernel
theorem dX12_personAt_2 : decode cX12_personAt 2 = .ok (.bipush 8, 2) := by decide +kernel
theorem dX12_personAt_4 : decode cX12_personAt 4 = .ok (.iload_n 0, 1) := by decide +kernel
theorem dX12_personAt_5 : decode cX12_personAt 5 = .ok (.imul, 1) := by decide +kernel
theorem dX12_personAt_6 : decode cX12_personAt 6 = .ok (.iadd, 1) := by decide +kernel
theorem dX12_personAt_7 : decode cX12_personAt 7 = .ok (.ireturn, 1) := by decide +kernel
theorem dX12_person_74 : decode cX12_person 74 = .ok (.istore 4, 2) := by decide +kernel
theorem dX12_person_76 : decode cX12_person 76 = .ok (.aload_n 0, 1) := by decide +kernel
theorem dX12_person_77 : decode cX12_person 77 = .ok (.iload 4, 2) := by decide +kernel
theorem dX12_person_79 : decode cX12_person 79 = .ok (.iload_n 1, 1) := by decide +kernel
theorem dX12_person_80 : decode cX12_person 80 = .ok (.iload_n 2, 1) := by decide +kernel
theorem dX12_person_81 : decode cX12_person 81 = .ok (.iload_n 3, 1) := by decide +kernel
theorem dX12_person_82 : decode cX12_person 82 = .ok (.iconst (-1), 1) := by decide +kernel
theorem dX12_person_83 : decode cX12_person 83 = .ok (.invokevirtual 107, 3) := by decide +kernel
theorem dX12_person_86 : decode cX12_person 86 = .ok (.aload_n 0, 1) := by decide +kernel
theorem dX12_person_87 : decode cX12_person 87 = .ok (.iload 4, 2) := by decide +kernel
theorem dX12_person_89 : decode cX12_person 89 = .ok (.iconst 4, 1) := by decide +kernel
theorem dX12_person_90 : decode cX12_person 90 = .ok (.iadd, 1) := by decide +kernel
theorem dX12_person_91 : decode cX12_person 91 = .ok (.iconst 0, 1) := by decide +kernel
theorem dX12_person_92 : decode cX12_person 92 = .ok (.iconst 0, 1) := by decide +kernel
theorem dX12_person_93 : decode cX12_person 93 = .ok (.iconst 0, 1) := by decide +kernel
theorem dX12_person_94 : decode cX12_person 94 = .ok (.iconst (-1), 1) := by decide +kernel
theorem dX12_person_95 : decode cX12_person 95 = .ok (.invokevirtual 107, 3) := by decide +kernel
theorem dX12_person_98 : decode cX12_person 98 = .ok (.aload_n 0, 1) := by decide +kernel
theorem dX12_person_99 : decode cX12_person 99 = .ok (.getfield 8, 3) := by decide +kernel
theorem dX12_person_102 : decode cX12_person 102 = .ok (.iconst 0, 1) := by decide +kernel
theorem dX12_person_103 : decode cX12_person 103 = .ok (.dup2, 1) := by decide +kernel
theorem dX12_person_104 : decode cX12_person 104 = .ok (.iaload, 1) := by decide +kernel
theorem dX12_person_105 : decode cX12_person 105 = .ok (.iconst 1, 1) := by decide +kernel
theorem dX12_person_106 : decode cX12_person 106 = .ok (.iadd, 1) := by decide +kernel
theorem dX12_person_107 : decode cX12_person 107 = .ok (.iastore, 1) := by decide +kernel
theorem dX12_person_108 : decode cX12_person 108 = .ok (.aload_n 0, 1) := by decide +kernel
theorem dX12_person_109 : decode cX12_person 109 = .ok (.aload_n 0, 1) := by decide +kernel
theorem dX12_person_110 : decode cX12_person 110 = .ok (.getfield 8, 3) := by decide +kernel
theorem dX12_person_113 : decode cX12_person 113 = .ok (.iconst 0, 1) := by decide +kernel
theorem dX12_person_114 : decode cX12_person 114 = .ok (.iaload, 1) := by decide +kernel
theorem dX12_person_115 : decode cX12_person 115 = .ok (.iconst 1, 1) := by decide +kernel
theorem dX12_person_116 : decode cX12_person 116 = .ok (.isub, 1) := by decide +kernel
theorem dX12_person_117 : decode cX12_person 117 = .ok (.invokevirtual 94, 3) := by decide +kernel
theorem dX12_told_0 : decode cX12_told 0 = .ok (.aload_n 0, 1) := by decide +kernel
theorem dX12_told_1 : decode cX12_told 1 = .ok (.iload_n 1, 1) := by decide +kernel
theorem dX12_told_2 : decode cX12_told 2 = .ok (.ifCond .ge 7, 3) := by decide +kernel
theorem dX12_told_9 : decode cX12_told 9 = .ok (.iconst 0, 1) := by decide +kernel
theorem dX12_told_10 : decode cX12_told 10 = .ok (.putfield 85, 3) := by decide +kernel
theorem dX12_told_13 : decode cX12_told 13 = .ok (.iload_n 1, 1) := by decide +kernel
theorem dX12_told_14 : decode cX12_told 14 = .ok (.ireturn, 1) := by decide +kernel
theorem dX12_person_120 : decode cX12_person 120 = .ok (.ireturn, 1) := by decide +kernel
theorem dX12_person_41 : decode cX12_person 41 = .ok (.aload_n 0, 1) := by decide +kernel
theorem dX12_person_42 : decode cX12_person 42 = .ok (.iconst (-1), 1) := by decide +kernel
theorem dX12_person_43 : decode cX12_person 43 = .ok (.invokevirtual 94, 3) := by decide +kernel
theorem dX12_told_5 : decode cX12_told 5 = .ok (.iload_n 1, 1) := by decide +kernel
theorem dX12_told_6 : decode cX12_told 6 = .ok (.goto 4, 3) := by decide +kernel
theorem dX12_person_46 : decode cX12_person 46 = .ok (.ireturn, 1) := by decide +kernel
theorem dX12_heed_0 : decode cX12_heed 0 = .ok (.aload_n 0, 1) := by decide +kernel
theorem dX12_heed_1 : decode cX12_heed 1 = .ok (.iconst 0, 1) := by decide +kernel
theorem dX12_heed_2 : decode cX12_heed 2 = .ok (.putfield 82, 3) := by decide +kernel
theorem dX12_heed_5 : decode cX12_heed 5 = .ok (.aload_n 0, 1) := by decide +kernel
theorem dX12_heed_6 : decode cX12_heed 6 = .ok (.iload_n 1, 1) := by decide +kernel
theorem dX12_heed_7 : decode cX12_heed 7 = .ok (.invokevirtual 111, 3) := by decide +kernel
theorem dX12_isPerson_0 : decode cX12_isPerson 0 = .ok (.iload_n 1, 1) := by decide +kernel
theorem dX12_isPerson_1 : decode cX12_isPerson 1 = .ok (.i2l, 1) := by decide +kernel
theorem dX12_isPerson_2 : decode cX12_isPerson 2 = .ok (.lconst 0, 1) := by decide +kernel
theorem dX12_isPerson_3 : decode cX12_isPerson 3 = .ok (.aload_n 0, 1) := by decide +kernel
theorem dX12_isPerson_4 : decode cX12_isPerson 4 = .ok (.getfield 8, 3) := by decide +kernel
theorem dX12_isPerson_7 : decode cX12_isPerson 7 = .ok (.iconst 0, 1) := by decide +kernel
theorem dX12_isPerson_8 : decode cX12_isPerson 8 = .ok (.iaload, 1) := by decide +kernel
theorem dX12_isPerson_9 : decode cX12_isPerson 9 = .ok (.i2l, 1) := by decide +kernel
theorem dX12_isPerson_10 : decode cX12_isPerson 10 = .ok (.lconst 1, 1) := by decide +kernel
theorem dX12_isPerson_11 : decode cX12_isPerson 11 = .ok (.lsub, 1) := by decide +kernel
theorem dX12_isPerson_12 : decode cX12_isPerson 12 = .ok (.invokestatic 90, 3) := by decide +kernel
theorem dX12_isPerson_15 : decode cX12_isPerson 15 = .ok (.ireturn, 1) := by decide +kernel
theorem dX12_heed_10 : decode cX12_heed 10 = .ok (.ifCond .eq 16, 3) := by decide +kernel
theorem dX12_heed_26 : decode cX12_heed 26 = .ok (.aload_n 0, 1) := by decide +kernel
theorem dX12_heed_27 : decode cX12_heed 27 = .ok (.bipush (-2), 2) := by decide +kernel
theorem dX12_heed_29 : decode cX12_heed 29 = .ok (.invokevirtual 94, 3) := by decide +kernel
theorem dX12_heed_32 : decode cX12_heed 32 = .ok (.ireturn, 1) := by decide +kernel
theorem dX12_goes_0 : decode cX12_goes 0 = .ok (.aload_n 0, 1) := by decide +kernel
theorem dX12_goes_1 : decode cX12_goes 1 = .ok (.iconst 0, 1) := by decide +kernel
theorem dX12_goes_2 : decode cX12_goes 2 = .ok (.putfield 82, 3) := by decide +kernel
theorem dX12_goes_5 : decode cX12_goes 5 = .ok (.iload_n 2, 1) := by decide +kernel
theorem dX12_goes_6 : decode cX12_goes 6 = .ok (.i2l, 1) := by decide +kernel
theorem dX12_goes_7 : decode cX12_goes 7 = .ok (.lconst 0, 1) := by decide +kernel
theorem dX12_goes_8 : decode cX12_goes 8 = .ok (.ldc2_w 115, 3) := by decide +kernel
theorem dX12_goes_11 : decode cX12_goes 11 = .ok (.invokestatic 90, 3) := by decide +kernel
theorem dX12_goes_14 : decode cX12_goes 14 = .ok (.ifCond .ne 9, 3) := by decide +kernel
theorem dX12_goes_23 : decode cX12_goes 23 = .ok (.aload_n 0, 1) := by decide +kernel
theorem dX12_goes_24 : decode cX12_goes 24 = .ok (.iload_n 1, 1) := by decide +kernel
theorem dX12_goes_25 : decode cX12_goes 25 = .ok (.invokevirtual 111, 3) := by decide +kernel
theorem dX12_goes_28 : decode cX12_goes 28 = .ok (.ifCond .ne 10, 3) := by decide +kernel
theorem dX12_goes_31 : decode cX12_goes 31 = .ok (.aload_n 0, 1) := by decide +kernel
theorem dX12_goes_32 : decode cX12_goes 32 = .ok (.bipush (-2), 2) := by decide +kernel
theorem dX12_goes_34 : decode cX12_goes 34 = .ok (.invokevirtual 94, 3) := by decide +kernel
theorem dX12_goes_37 : decode cX12_goes 37 = .ok (.ireturn, 1) := by decide +kernel
theorem dX12_goes_17 : decode cX12_goes 17 = .ok (.aload_n 0, 1) := by decide +kernel
theorem dX12_goes_18 : decode cX12_goes 18 = .ok (.iconst (-1), 1) := by decide +kernel
theorem dX12_goes_19 : decode cX12_goes 19 = .ok (.invokevirtual 94, 3) := by decide +kernel
theorem dX12_goes_22 : decode cX12_goes 22 = .ok (.ireturn, 1) := by decide +kernel
theorem dX12_coin_0 : decode cX12_coin 0 = .ok (.aload_n 0, 1) := by decide +kernel
theorem dX12_coin_1 : decode cX12_coin 1 = .ok (.iconst 0, 1) := by decide +kernel
theorem dX12_coin_2 : decode cX12_coin 2 = .ok (.putfield 82, 3) := by decide +kernel
theorem dX12_coin_5 : decode cX12_coin 5 = .ok (.iload_n 2, 1) := by decide +kernel
theorem dX12_coin_6 : decode cX12_coin 6 = .ok (.i2l, 1) := by decide +kernel
theorem dX12_coin_7 : decode cX12_coin 7 = .ok (.lconst 0, 1) := by decide +kernel
theorem dX12_coin_8 : decode cX12_coin 8 = .ok (.ldc2_w 100, 3) := by decide +kernel
theorem dX12_coin_11 : decode cX12_coin 11 = .ok (.invokestatic 90, 3) := by decide +kernel
theorem dX12_coin_14 : decode cX12_coin 14 = .ok (.ifCond .ne 9, 3) := by decide +kernel
theorem dX12_coin_23 : decode cX12_coin 23 = .ok (.aload_n 0, 1) := by decide +kernel
theorem dX12_coin_24 : decode cX12_coin 24 = .ok (.iload_n 1, 1) := by decide +kernel
theorem dX12_coin_25 : decode cX12_coin 25 = .ok (.invokevirtual 111, 3) := by decide +kernel
theorem dX12_coin_28 : decode cX12_coin 28 = .ok (.ifCond .ne 10, 3) := by decide +kernel
theorem dX12_coin_31 : decode cX12_coin 31 = .ok (.aload_n 0, 1) := by decide +kernel
theorem dX12_coin_32 : decode cX12_coin 32 = .ok (.bipush (-2), 2) := by decide +kernel
theorem dX12_coin_34 : decode cX12_coin 34 = .ok (.invokevirtual 94, 3) := by decide +kernel
theorem dX12_coin_37 : decode cX12_coin 37 = .ok (.ireturn, 1) := by decide +kernel
theorem dX12_coin_17 : decode cX12_coin 17 = .ok (.aload_n 0, 1) := by decide +kernel
theorem dX12_coin_18 : decode cX12_coin 18 = .ok (.iconst (-1), 1) := by decide +kernel
theorem dX12_coin_19 : decode cX12_coin 19 = .ok (.invokevirtual 94, 3) := by decide +kernel
theorem dX12_coin_22 : decode cX12_coin 22 = .ok (.ireturn, 1) := by decide +kernel
theorem dX12_give_0 : decode cX12_give 0 = .ok (.aload_n 0, 1) := by decide +kernel
theorem dX12_give_1 : decode cX12_give 1 = .ok (.iconst 0, 1) := by decide +kernel
theorem dX12_give_2 : decode cX12_give 2 = .ok (.putfield 82, 3) := by decide +kernel
theorem dX12_give_5 : decode cX12_give 5 = .ok (.iload_n 1, 1) := by decide +kernel
theorem dX12_give_6 : decode cX12_give 6 = .ok (.i2l, 1) := by decide +kernel
theorem dX12_give_7 : decode cX12_give 7 = .ok (.lconst 0, 1) := by decide +kernel
theorem dX12_give_8 : decode cX12_give 8 = .ok (.ldc2_w 122, 3) := by decide +kernel
theorem dX12_give_11 : decode cX12_give 11 = .ok (.invokestatic 90, 3) := by decide +kernel
theorem dX12_give_14 : decode cX12_give 14 = .ok (.ifCond .ne 9, 3) := by decide +kernel
theorem dX12_give_23 : decode cX12_give 23 = .ok (.aload_n 0, 1) := by decide +kernel
theorem dX12_give_24 : decode cX12_give 24 = .ok (.getfield 8, 3) := by decide +kernel
theorem dX12_give_27 : decode cX12_give 27 = .ok (.bipush 9, 2) := by decide +kernel
theorem dX12_give_29 : decode cX12_give 29 = .ok (.aload_n 0, 1) := by decide +kernel
theorem dX12_give_30 : decode cX12_give 30 = .ok (.getfield 8, 3) := by decide +kernel
theorem dX12_give_33 : decode cX12_give 33 = .ok (.bipush 9, 2) := by decide +kernel
theorem dX12_give_35 : decode cX12_give 35 = .ok (.iaload, 1) := by decide +kernel
theorem dX12_give_36 : decode cX12_give 36 = .ok (.iload_n 1, 1) := by decide +kernel
theorem dX12_give_37 : decode cX12_give 37 = .ok (.iadd, 1) := by decide +kernel
theorem dX12_give_38 : decode cX12_give 38 = .ok (.ldc 124, 2) := by decide +kernel
theorem dX12_give_40 : decode cX12_give 40 = .ok (.if_icmp .le 8, 3) := by decide +kernel
theorem dX12_give_48 : decode cX12_give 48 = .ok (.aload_n 0, 1) := by decide +kernel
theorem dX12_give_49 : decode cX12_give 49 = .ok (.getfield 8, 3) := by decide +kernel
theorem dX12_give_52 : decode cX12_give 52 = .ok (.bipush 9, 2) := by decide +kernel
theorem dX12_give_54 : decode cX12_give 54 = .ok (.iaload, 1) := by decide +kernel
theorem dX12_give_55 : decode cX12_give 55 = .ok (.iload_n 1, 1) := by decide +kernel
theorem dX12_give_56 : decode cX12_give 56 = .ok (.iadd, 1) := by decide +kernel
theorem dX12_give_57 : decode cX12_give 57 = .ok (.iastore, 1) := by decide +kernel
theorem dX12_give_58 : decode cX12_give 58 = .ok (.aload_n 0, 1) := by decide +kernel
theorem dX12_give_59 : decode cX12_give 59 = .ok (.aload_n 0, 1) := by decide +kernel
theorem dX12_give_60 : decode cX12_give 60 = .ok (.getfield 8, 3) := by decide +kernel
theorem dX12_give_63 : decode cX12_give 63 = .ok (.bipush 9, 2) := by decide +kernel
theorem dX12_give_65 : decode cX12_give 65 = .ok (.iaload, 1) := by decide +kernel
theorem dX12_give_66 : decode cX12_give 66 = .ok (.invokevirtual 94, 3) := by decide +kernel
theorem dX12_give_69 : decode cX12_give 69 = .ok (.ireturn, 1) := by decide +kernel
theorem dX12_give_17 : decode cX12_give 17 = .ok (.aload_n 0, 1) := by decide +kernel
theorem dX12_give_18 : decode cX12_give 18 = .ok (.iconst (-1), 1) := by decide +kernel
theorem dX12_give_19 : decode cX12_give 19 = .ok (.invokevirtual 94, 3) := by decide +kernel
theorem dX12_give_22 : decode cX12_give 22 = .ok (.ireturn, 1) := by decide +kernel
theorem dX12_estate_0 : decode cX12_estate 0 = .ok (.aload_n 0, 1) := by decide +kernel
theorem dX12_estate_1 : decode cX12_estate 1 = .ok (.iconst 0, 1) := by decide +kernel
theorem dX12_estate_2 : decode cX12_estate 2 = .ok (.putfield 82, 3) := by decide +kernel
theorem dX12_estate_5 : decode cX12_estate 5 = .ok (.iload_n 1, 1) := by decide +kernel
theorem dX12_estate_6 : decode cX12_estate 6 = .ok (.i2l, 1) := by decide +kernel
theorem dX12_estate_7 : decode cX12_estate 7 = .ok (.lconst 0, 1) := by decide +kernel
theorem dX12_estate_8 : decode cX12_estate 8 = .ok (.ldc2_w 122, 3) := by decide +kernel
theorem dX12_estate_11 : decode cX12_estate 11 = .ok (.invokestatic 90, 3) := by decide +kernel
theorem dX12_estate_14 : decode cX12_estate 14 = .ok (.ifCond .eq 15, 3) := by decide +kernel
theorem dX12_estate_17 : decode cX12_estate 17 = .ok (.iload_n 2, 1) := by decide +kernel
theorem dX12_estate_18 : decode cX12_estate 18 = .ok (.i2l, 1) := by decide +kernel
theorem dX12_estate_19 : decode cX12_estate 19 = .ok (.lconst 0, 1) := by decide +kernel
theorem dX12_estate_20 : decode cX12_estate 20 = .ok (.ldc2_w 100, 3) := by decide +kernel
theorem dX12_estate_23 : decode cX12_estate 23 = .ok (.invokestatic 90, 3) := by decide +kernel
theorem dX12_estate_26 : decode cX12_estate 26 = .ok (.ifCond .ne 9, 3) := by decide +kernel
theorem dX12_estate_35 : decode cX12_estate 35 = .ok (.aload_n 0, 1) := by decide +kernel
theorem dX12_estate_36 : decode cX12_estate 36 = .ok (.getfield 8, 3) := by decide +kernel
theorem dX12_estate_39 : decode cX12_estate 39 = .ok (.iconst 1, 1) := by decide +kernel
theorem dX12_estate_40 : decode cX12_estate 40 = .ok (.iaload, 1) := by decide +kernel
theorem dX12_estate_41 : decode cX12_estate 41 = .ok (.bipush 8, 2) := by decide +kernel
theorem dX12_estate_43 : decode cX12_estate 43 = .ok (.if_icmp .ne 10, 3) := by decide +kernel
theorem dX12_estate_53 : decode cX12_estate 53 = .ok (.aload_n 0, 1) := by decide +kernel
theorem dX12_estate_54 : decode cX12_estate 54 = .ok (.getfield 8, 3) := by decide +kernel
theorem dX12_estate_57 : decode cX12_estate 57 = .ok (.iconst 1, 1) := by decide +kernel
theorem dX12_estate_58 : decode cX12_estate 58 = .ok (.iaload, 1) := by decide +kernel
theorem dX12_estate_59 : decode cX12_estate 59 = .ok (.invokestatic 125, 3) := by decide +kernel
theorem dX12_estateAt_0 : decode cX12_estateAt 0 = .ok (.sipush 340, 3) := by decide +kernel
theorem dX12_estateAt_3 : decode cX12_estateAt 3 = .ok (.iconst 3, 1) := by decide +kernel
theorem dX12_estateAt_4 : decode cX12_estateAt 4 = .ok (.iload_n 0, 1) := by decide +kernel
theorem dX12_estateAt_5 : decode cX12_estateAt 5 = .ok (.imul, 1) := by decide +kernel
theorem dX12_estateAt_6 : decode cX12_estateAt 6 = .ok (.iadd, 1) := by decide +kernel
theorem dX12_estateAt_7 : decode cX12_estateAt 7 = .ok (.ireturn, 1) := by decide +kernel
theorem dX12_estate_62 : decode cX12_estate 62 = .ok (.istore_n 3, 1) := by decide +kernel
theorem dX12_estate_63 : decode cX12_estate 63 = .ok (.aload_n 0, 1) := by decide +kernel
theorem dX12_estate_64 : decode cX12_estate 64 = .ok (.getfield 8, 3) := by decide +kernel
theorem dX12_estate_67 : decode cX12_estate 67 = .ok (.iload_n 3, 1) := by decide +kernel
theorem dX12_estate_68 : decode cX12_estate 68 = .ok (.iload_n 1, 1) := by decide +kernel
theorem dX12_estate_69 : decode cX12_estate 69 = .ok (.iastore, 1) := by decide +kernel
theorem dX12_estate_70 : decode cX12_estate 70 = .ok (.aload_n 0, 1) := by decide +kernel
theorem dX12_estate_71 : decode cX12_estate 71 = .ok (.getfield 8, 3) := by decide +kernel
theorem dX12_estate_74 : decode cX12_estate 74 = .ok (.iload_n 3, 1) := by decide +kernel
theorem dX12_estate_75 : decode cX12_estate 75 = .ok (.iconst 1, 1) := by decide +kernel
theorem dX12_estate_76 : decode cX12_estate 76 = .ok (.iadd, 1) := by decide +kernel
theorem dX12_estate_77 : decode cX12_estate 77 = .ok (.iload_n 2, 1) := by decide +kernel
theorem dX12_estate_78 : decode cX12_estate 78 = .ok (.iastore, 1) := by decide +kernel
theorem dX12_estate_79 : decode cX12_estate 79 = .ok (.aload_n 0, 1) := by decide +kernel
theorem dX12_estate_80 : decode cX12_estate 80 = .ok (.getfield 8, 3) := by decide +kernel
theorem dX12_estate_83 : decode cX12_estate 83 = .ok (.iload_n 3, 1) := by decide +kernel
theorem dX12_estate_84 : decode cX12_estate 84 = .ok (.iconst 2, 1) := by decide +kernel
theorem dX12_estate_85 : decode cX12_estate 85 = .ok (.iadd, 1) := by decide +kernel
theorem dX12_estate_86 : decode cX12_estate 86 = .ok (.iconst (-1), 1) := by decide +kernel
theorem dX12_estate_87 : decode cX12_estate 87 = .ok (.iastore, 1) := by decide +kernel
theorem dX12_estate_88 : decode cX12_estate 88 = .ok (.aload_n 0, 1) := by decide +kernel
theorem dX12_estate_89 : decode cX12_estate 89 = .ok (.getfield 8, 3) := by decide +kernel
theorem dX12_estate_92 : decode cX12_estate 92 = .ok (.iconst 1, 1) := by decide +kernel
theorem dX12_estate_93 : decode cX12_estate 93 = .ok (.dup2, 1) := by decide +kernel
theorem dX12_estate_94 : decode cX12_estate 94 = .ok (.iaload, 1) := by decide +kernel
theorem dX12_estate_95 : decode cX12_estate 95 = .ok (.iconst 1, 1) := by decide +kernel
theorem dX12_estate_96 : decode cX12_estate 96 = .ok (.iadd, 1) := by decide +kernel
theorem dX12_estate_97 : decode cX12_estate 97 = .ok (.iastore, 1) := by decide +kernel
theorem dX12_estate_98 : decode cX12_estate 98 = .ok (.aload_n 0, 1) := by decide +kernel
theorem dX12_estate_99 : decode cX12_estate 99 = .ok (.aload_n 0, 1) := by decide +kernel
theorem dX12_estate_100 : decode cX12_estate 100 = .ok (.getfield 8, 3) := by decide +kernel
theorem dX12_estate_103 : decode cX12_estate 103 = .ok (.iconst 1, 1) := by decide +kernel
theorem dX12_estate_104 : decode cX12_estate 104 = .ok (.iaload, 1) := by decide +kernel
theorem dX12_estate_105 : decode cX12_estate 105 = .ok (.iconst 1, 1) := by decide +kernel
theorem dX12_estate_106 : decode cX12_estate 106 = .ok (.isub, 1) := by decide +kernel
theorem dX12_estate_107 : decode cX12_estate 107 = .ok (.invokevirtual 94, 3) := by decide +kernel
theorem dX12_estate_110 : decode cX12_estate 110 = .ok (.ireturn, 1) := by decide +kernel
theorem dX12_estate_29 : decode cX12_estate 29 = .ok (.aload_n 0, 1) := by decide +kernel
theorem dX12_estate_30 : decode cX12_estate 30 = .ok (.iconst (-1), 1) := by decide +kernel
theorem dX12_estate_31 : decode cX12_estate 31 = .ok (.invokevirtual 94, 3) := by decide +kernel
theorem dX12_estate_34 : decode cX12_estate 34 = .ok (.ireturn, 1) := by decide +kernel
theorem dX12_field_0 : decode cX12_field 0 = .ok (.aload_n 0, 1) := by decide +kernel
theorem dX12_field_1 : decode cX12_field 1 = .ok (.iconst 0, 1) := by decide +kernel
theorem dX12_field_2 : decode cX12_field 2 = .ok (.putfield 82, 3) := by decide +kernel
theorem dX12_field_5 : decode cX12_field 5 = .ok (.iload_n 2, 1) := by decide +kernel
theorem dX12_field_6 : decode cX12_field 6 = .ok (.i2l, 1) := by decide +kernel
theorem dX12_field_7 : decode cX12_field 7 = .ok (.lconst 1, 1) := by decide +kernel
theorem dX12_field_8 : decode cX12_field 8 = .ok (.ldc2_w 128, 3) := by decide +kernel
theorem dX12_field_11 : decode cX12_field 11 = .ok (.invokestatic 90, 3) := by decide +kernel
theorem dX12_field_14 : decode cX12_field 14 = .ok (.ifCond .eq 15, 3) := by decide +kernel
theorem dX12_field_17 : decode cX12_field 17 = .ok (.iload_n 3, 1) := by decide +kernel
theorem dX12_field_18 : decode cX12_field 18 = .ok (.i2l, 1) := by decide +kernel
theorem dX12_field_19 : decode cX12_field 19 = .ok (.lconst 0, 1) := by decide +kernel
theorem dX12_field_20 : decode cX12_field 20 = .ok (.ldc2_w 130, 3) := by decide +kernel
theorem dX12_field_23 : decode cX12_field 23 = .ok (.invokestatic 90, 3) := by decide +kernel
theorem dX12_field_26 : decode cX12_field 26 = .ok (.ifCond .ne 9, 3) := by decide +kernel
theorem dX12_field_35 : decode cX12_field 35 = .ok (.aload_n 0, 1) := by decide +kernel
theorem dX12_field_36 : decode cX12_field 36 = .ok (.iload_n 1, 1) := by decide +kernel
theorem dX12_field_37 : decode cX12_field 37 = .ok (.invokevirtual 132, 3) := by decide +kernel
theorem dX12_isEstate_0 : decode cX12_isEstate 0 = .ok (.iload_n 1, 1) := by decide +kernel
theorem dX12_isEstate_1 : decode cX12_isEstate 1 = .ok (.i2l, 1) := by decide +kernel
theorem dX12_isEstate_2 : decode cX12_isEstate 2 = .ok (.lconst 0, 1) := by decide +kernel
theorem dX12_isEstate_3 : decode cX12_isEstate 3 = .ok (.aload_n 0, 1) := by decide +kernel
theorem dX12_isEstate_4 : decode cX12_isEstate 4 = .ok (.getfield 8, 3) := by decide +kernel
theorem dX12_isEstate_7 : decode cX12_isEstate 7 = .ok (.iconst 1, 1) := by decide +kernel
theorem dX12_isEstate_8 : decode cX12_isEstate 8 = .ok (.iaload, 1) := by decide +kernel
theorem dX12_isEstate_9 : decode cX12_isEstate 9 = .ok (.i2l, 1) := by decide +kernel
theorem dX12_isEstate_10 : decode cX12_isEstate 10 = .ok (.lconst 1, 1) := by decide +kernel
theorem dX12_isEstate_11 : decode cX12_isEstate 11 = .ok (.lsub, 1) := by decide +kernel
theorem dX12_isEstate_12 : decode cX12_isEstate 12 = .ok (.invokestatic 90, 3) := by decide +kernel
theorem dX12_isEstate_15 : decode cX12_isEstate 15 = .ok (.ireturn, 1) := by decide +kernel
theorem dX12_field_40 : decode cX12_field 40 = .ok (.ifCond .eq 18, 3) := by decide +kernel
theorem dX12_field_58 : decode cX12_field 58 = .ok (.aload_n 0, 1) := by decide +kernel
theorem dX12_field_59 : decode cX12_field 59 = .ok (.bipush (-2), 2) := by decide +kernel
theorem dX12_field_61 : decode cX12_field 61 = .ok (.invokevirtual 94, 3) := by decide +kernel
theorem dX12_field_64 : decode cX12_field 64 = .ok (.ireturn, 1) := by decide +kernel
theorem dX12_field_29 : decode cX12_field 29 = .ok (.aload_n 0, 1) := by decide +kernel
theorem dX12_field_30 : decode cX12_field 30 = .ok (.iconst (-1), 1) := by decide +kernel
theorem dX12_field_31 : decode cX12_field 31 = .ok (.invokevirtual 94, 3) := by decide +kernel
theorem dX12_field_34 : decode cX12_field 34 = .ok (.ireturn, 1) := by decide +kernel
theorem dX12_of_0 : decode cX12_of 0 = .ok (.aload_n 0, 1) := by decide +kernel
theorem dX12_of_1 : decode cX12_of 1 = .ok (.iconst 0, 1) := by decide +kernel
theorem dX12_of_2 : decode cX12_of 2 = .ok (.putfield 82, 3) := by decide +kernel
theorem dX12_of_5 : decode cX12_of 5 = .ok (.aload_n 0, 1) := by decide +kernel
theorem dX12_of_6 : decode cX12_of 6 = .ok (.iload_n 1, 1) := by decide +kernel
theorem dX12_of_7 : decode cX12_of 7 = .ok (.invokevirtual 111, 3) := by decide +kernel
theorem dX12_of_10 : decode cX12_of 10 = .ok (.ifCond .ne 5, 3) := by decide +kernel
theorem dX12_of_13 : decode cX12_of 13 = .ok (.iconst (-1), 1) := by decide +kernel
theorem dX12_of_14 : decode cX12_of 14 = .ok (.ireturn, 1) := by decide +kernel
theorem dX12_tells_0 : decode cX12_tells 0 = .ok (.aload_n 0, 1) := by decide +kernel
theorem dX12_tells_1 : decode cX12_tells 1 = .ok (.iconst 0, 1) := by decide +kernel
theorem dX12_tells_2 : decode cX12_tells 2 = .ok (.putfield 82, 3) := by decide +kernel
theorem dX12_tells_5 : decode cX12_tells 5 = .ok (.aload_n 0, 1) := by decide +kernel
theorem dX12_tells_6 : decode cX12_tells 6 = .ok (.iload_n 1, 1) := by decide +kernel
theorem dX12_tells_7 : decode cX12_tells 7 = .ok (.invokevirtual 141, 3) := by decide +kernel
theorem dX12_isField_0 : decode cX12_isField 0 = .ok (.iload_n 1, 1) := by decide +kernel
theorem dX12_isField_1 : decode cX12_isField 1 = .ok (.i2l, 1) := by decide +kernel
theorem dX12_isField_2 : decode cX12_isField 2 = .ok (.lconst 0, 1) := by decide +kernel
theorem dX12_isField_3 : decode cX12_isField 3 = .ok (.aload_n 0, 1) := by decide +kernel
theorem dX12_isField_4 : decode cX12_isField 4 = .ok (.getfield 8, 3) := by decide +kernel
theorem dX12_isField_7 : decode cX12_isField 7 = .ok (.iconst 2, 1) := by decide +kernel
theorem dX12_isField_8 : decode cX12_isField 8 = .ok (.iaload, 1) := by decide +kernel
theorem dX12_isField_9 : decode cX12_isField 9 = .ok (.i2l, 1) := by decide +kernel
theorem dX12_isField_10 : decode cX12_isField 10 = .ok (.lconst 1, 1) := by decide +kernel
theorem dX12_isField_11 : decode cX12_isField 11 = .ok (.lsub, 1) := by decide +kernel
theorem dX12_isField_12 : decode cX12_isField 12 = .ok (.invokestatic 90, 3) := by decide +kernel
theorem dX12_isField_15 : decode cX12_isField 15 = .ok (.ireturn, 1) := by decide +kernel
theorem dX12_tells_10 : decode cX12_tells 10 = .ok (.ifCond .ne 5, 3) := by decide +kernel
theorem dX12_tells_13 : decode cX12_tells 13 = .ok (.iconst (-1), 1) := by decide +kernel
theorem dX12_tells_14 : decode cX12_tells 14 = .ok (.ireturn, 1) := by decide +kernel
def d_X12_personAt_v1 : List Cond := []
def v_X12_personAt_v1 : List Cond := Cond.code yX12_personAt cX12_personAt 1 (some .int) :: (d_X12_personAt_v1 ++ ([] : List Cond))
theorem gd_X12_personAt_v1 : Gd v_X12_personAt_v1 := gd_mk (by decide +kernel) gd_nil
set_option maxHeartbeats 4000000 in
set_option maxRecDepth 100000 in
theorem c_X12_personAt_v1 (l : Launch) (G : va_G) (cI cJ cZ cD cR cT : ClassId) (sz : Nat) : Met l yX12_personAt v_X12_personAt_v1 ({ frames := 1, cells := 0, slots := 0, locals := 40 }) (va_Pc [.int 0] (PreW G (tys6 cI cJ cZ cD cR cT) [] sz)) (QW (RI (fun r => r = 20)) G (va_A [] sz) (fun q g => [])) 0 0 (va_A [] sz) := by
  refine metW (cc := cX12_personAt) (maxL := 1) (ret := (some .int)) (by decide) rfl (Nat.le_of_ble_eq_true rfl) ?_
  intro p e s m below meth c A ls hx hb hr hml hown hts hlocks hin hKK hP hD hA hS hl
  have hK := hKK.1
  have hown : s.vm.findClass RX12 = some m.cls := hown
  have hl : lv_has ls 1 [(0, .int 0)] := hl
  have hP : va_P G vwCl [] s.heap := hP
  have hD : va_D A [] := hD
  refine lv_bipush (v := 20) hx hb dX12_personAt_0 (by decide) ?_
  refine lv_bipush (v := 8) hx hb dX12_personAt_2 (by decide) ?_
  refine lv_iload_n hx hb dX12_personAt_4 rfl (lv_at hl 0 rfl) ?_
  refine lv_imul hx hb dX12_personAt_5 ?_
  refine lv_topi (fun x1 ex1 => ?_)
  obtain rfl : 0 = x1 := (ex1.trans (by decide)).symm
  refine lv_iadd hx hb dX12_personAt_6 ?_
  refine lv_topi (fun x2 ex2 => ?_)
  obtain rfl : 20 = x2 := (ex2.trans (by decide)).symm
  exact retI hx hb hr hlocks ⟨_, rfl, rfl⟩ hP hD hS (fun _ => 0) (fun _ _ => 0) [] (by decide +kernel) rfl dX12_personAt_7
def d_X12_told_v1 : List Cond := [Cond.fieldLink RX12 85 "NoRentModel" "status" "I"]
def v_X12_told_v1 : List Cond := Cond.code yX12_told cX12_told 2 (some .int) :: (d_X12_told_v1 ++ (wsX120 ++ ([] : List Cond)))
theorem cm_X12_told_v1_0 : ∀ w ∈ wsX120, w ∈ v_X12_told_v1 := fun _ h => List.mem_cons_of_mem _ (List.mem_append_right _ (List.mem_append_left _ h))
theorem gd_X12_told_v1 : Gd v_X12_told_v1 := gd_mk (by decide +kernel) (gd_app gd_X12 gd_nil)
set_option maxHeartbeats 4000000 in
set_option maxRecDepth 100000 in
theorem c_X12_told_v1 (l : Launch) (G : va_G) (cI cJ cZ cD cR cT : ClassId) (h0 : Nat) (h0_2 : Nat) (h0_3 : Nat) (h0_4 : Nat) (h0_5 : Nat) (h0_9 : Nat) (h0_10 : Nat) (h0_11 : Nat) (h0_20 : Nat) (h0_22 : Nat) (h0_23 : Nat) (h0_25 : Nat) (h0_26 : Nat) (h0_29 : Nat) (h0_30 : Nat) (h0_31 : Nat) (h0_32 : Nat) (h0_39 : Nat) (h0_40 : Nat) (h0_42 : Nat) (h0_44 : Nat) (h0_45 : Nat) (sz : Nat) : Met l yX12_told v_X12_told_v1 ({ frames := 1, cells := 0, slots := 0, locals := 40 }) (va_Pc [.ref h0, .int 0] (PreW G (tys6 cI cJ cZ cD cR cT) [(h0, .inr (12, [.int 0, .int 0, .ref h0_2, .ref h0_3, .ref h0_4, .ref h0_5, .int 0, .int 0, .int 0, .ref h0_9, .ref h0_10, .ref h0_11, .int 0, .int 0, .int 0, .int 0, .long 0, .int (-1), .int 0, .int 0, .ref h0_20, .int 0, .ref h0_22, .ref h0_23, .int 0, .ref h0_25, .ref h0_26, .int 0, .int 0, .ref h0_29, .ref h0_30, .ref h0_31, .ref h0_32, .int 0, .long 0, .long 0, .long 0, .long 0, .int 0, .ref h0_39, .ref h0_40, .int 0, .ref h0_42, .int 0, .ref h0_44, .ref h0_45, .int 0, .int 0, .int 0, .int 0, .int 0, .int 0]))] sz)) (QW (RI (fun r => r = 0)) G (va_A [(h0, .inr (12, [.int 0, .int 0, .ref h0_2, .ref h0_3, .ref h0_4, .ref h0_5, .int 0, .int 0, .int 0, .ref h0_9, .ref h0_10, .ref h0_11, .int 0, .int 0, .int 0, .int 0, .long 0, .int (-1), .int 0, .int 0, .ref h0_20, .int 0, .ref h0_22, .ref h0_23, .int 0, .ref h0_25, .ref h0_26, .int 0, .int 0, .ref h0_29, .ref h0_30, .ref h0_31, .ref h0_32, .int 0, .long 0, .long 0, .long 0, .long 0, .int 0, .ref h0_39, .ref h0_40, .int 0, .ref h0_42, .int 0, .ref h0_44, .ref h0_45, .int 0, .int 0, .int 0, .int 0, .int 0, .int 0]))] sz) (fun q g => [(h0, .inr (12, [.int 0, .int 0, .ref h0_2, .ref h0_3, .ref h0_4, .ref h0_5, .int 0, .int 0, .int 0, .ref h0_9, .ref h0_10, .ref h0_11, .int 0, .int 0, .int 0, .int 0, .long 0, .int (-1), .int 0, .int 0, .ref h0_20, .int 0, .ref h0_22, .ref h0_23, .int 0, .ref h0_25, .ref h0_26, .int 0, .int 0, .ref h0_29, .ref h0_30, .ref h0_31, .ref h0_32, .int 0, .long 0, .long 0, .long 0, .long 0, .int 0, .ref h0_39, .ref h0_40, .int 0, .ref h0_42, .int 0, .ref h0_44, .ref h0_45, .int 0, .int 0, .int 0, .int 0, .int 0, .int 0]))])) 0 0 (va_A [(h0, .inr (12, [.int 0, .int 0, .ref h0_2, .ref h0_3, .ref h0_4, .ref h0_5, .int 0, .int 0, .int 0, .ref h0_9, .ref h0_10, .ref h0_11, .int 0, .int 0, .int 0, .int 0, .long 0, .int (-1), .int 0, .int 0, .ref h0_20, .int 0, .ref h0_22, .ref h0_23, .int 0, .ref h0_25, .ref h0_26, .int 0, .int 0, .ref h0_29, .ref h0_30, .ref h0_31, .ref h0_32, .int 0, .long 0, .long 0, .long 0, .long 0, .int 0, .ref h0_39, .ref h0_40, .int 0, .ref h0_42, .int 0, .ref h0_44, .ref h0_45, .int 0, .int 0, .int 0, .int 0, .int 0, .int 0]))] sz) := by
  refine metW (cc := cX12_told) (maxL := 2) (ret := (some .int)) (by decide) rfl (Nat.le_of_ble_eq_true rfl) ?_
  intro p e s m below meth c A ls hx hb hr hml hown hts hlocks hin hKK hP hD hA hS hl
  have hK := hKK.1
  have hown : s.vm.findClass RX12 = some m.cls := hown
  have hl : lv_has ls 2 [(0, .ref h0), (1, .int 0)] := hl
  have hP : va_P G vwCl [(h0, .inr (12, [.int 0, .int 0, .ref h0_2, .ref h0_3, .ref h0_4, .ref h0_5, .int 0, .int 0, .int 0, .ref h0_9, .ref h0_10, .ref h0_11, .int 0, .int 0, .int 0, .int 0, .long 0, .int (-1), .int 0, .int 0, .ref h0_20, .int 0, .ref h0_22, .ref h0_23, .int 0, .ref h0_25, .ref h0_26, .int 0, .int 0, .ref h0_29, .ref h0_30, .ref h0_31, .ref h0_32, .int 0, .long 0, .long 0, .long 0, .long 0, .int 0, .ref h0_39, .ref h0_40, .int 0, .ref h0_42, .int 0, .ref h0_44, .ref h0_45, .int 0, .int 0, .int 0, .int 0, .int 0, .int 0]))] s.heap := hP
  have hD : va_D A [(h0, .inr (12, [.int 0, .int 0, .ref h0_2, .ref h0_3, .ref h0_4, .ref h0_5, .int 0, .int 0, .int 0, .ref h0_9, .ref h0_10, .ref h0_11, .int 0, .int 0, .int 0, .int 0, .long 0, .int (-1), .int 0, .int 0, .ref h0_20, .int 0, .ref h0_22, .ref h0_23, .int 0, .ref h0_25, .ref h0_26, .int 0, .int 0, .ref h0_29, .ref h0_30, .ref h0_31, .ref h0_32, .int 0, .long 0, .long 0, .long 0, .long 0, .int 0, .ref h0_39, .ref h0_40, .int 0, .ref h0_42, .int 0, .ref h0_44, .ref h0_45, .int 0, .int 0, .int 0, .int 0, .int 0, .int 0]))] := hD
  refine lv_aload_n hx hb dX12_told_0 rfl (lv_at hl 0 rfl) ?_
  refine lv_iload_n hx hb dX12_told_1 rfl (lv_at hl 1 rfl) ?_
  refine lv_if_ge (tgt := 9) hx hb dX12_told_2 (by decide) (fun _ => ?_) (fun c => absurd c (by decide))
  refine lv_iconst (v := 0) hx hb dX12_told_9 (by decide) ?_
  refine va_put (D := G) (ci := 12) (v := .int 0) (ty := .int) (C := RX12) (T := TX12) (N := 52) hx hb hts cm_X12_told_v1_0 tyX12 tyX12_ok nmX12 hown hK hP hD hS 0 rfl rfl 1 (by decide) (hts _ (dmem (j := 0) rfl)) (fun _ h9 => h9) rfl (by decide +kernel) rfl rfl (Nat.le_of_ble_eq_true rfl) dX12_told_10 (fun H locs => setW (ws' := [(h0, .inr (12, [.int 0, .int 0, .ref h0_2, .ref h0_3, .ref h0_4, .ref h0_5, .int 0, .int 0, .int 0, .ref h0_9, .ref h0_10, .ref h0_11, .int 0, .int 0, .int 0, .int 0, .long 0, .int (-1), .int 0, .int 0, .ref h0_20, .int 0, .ref h0_22, .ref h0_23, .int 0, .ref h0_25, .ref h0_26, .int 0, .int 0, .ref h0_29, .ref h0_30, .ref h0_31, .ref h0_32, .int 0, .long 0, .long 0, .long 0, .long 0, .int 0, .ref h0_39, .ref h0_40, .int 0, .ref h0_42, .int 0, .ref h0_44, .ref h0_45, .int 0, .int 0, .int 0, .int 0, .int 0, .int 0]))]) rfl (fun hP hD hS => ?_))
  refine lv_iload_n hx hb dX12_told_13 rfl (lv_at hl 1 rfl) ?_
  exact retI hx hb hr hlocks ⟨_, rfl, rfl⟩ hP hD hS (fun _ => 0) (fun _ _ => 0) [0] (by decide +kernel) rfl dX12_told_14
def d_X12_told_v2 : List Cond := [Cond.fieldLink RX12 85 "NoRentModel" "status" "I"]
def v_X12_told_v2 : List Cond := Cond.code yX12_told cX12_told 2 (some .int) :: (d_X12_told_v2 ++ (wsX120 ++ ([] : List Cond)))
theorem cm_X12_told_v2_0 : ∀ w ∈ wsX120, w ∈ v_X12_told_v2 := fun _ h => List.mem_cons_of_mem _ (List.mem_append_right _ (List.mem_append_left _ h))
theorem gd_X12_told_v2 : Gd v_X12_told_v2 := gd_mk (by decide +kernel) (gd_app gd_X12 gd_nil)
set_option maxHeartbeats 4000000 in
set_option maxRecDepth 100000 in
theorem c_X12_told_v2 (l : Launch) (G : va_G) (cI cJ cZ cD cR cT : ClassId) (h0 : Nat) (h0_2 : Nat) (h0_3 : Nat) (h0_4 : Nat) (h0_5 : Nat) (h0_9 : Nat) (h0_10 : Nat) (h0_11 : Nat) (h0_20 : Nat) (h0_22 : Nat) (h0_23 : Nat) (h0_25 : Nat) (h0_26 : Nat) (h0_29 : Nat) (h0_30 : Nat) (h0_31 : Nat) (h0_32 : Nat) (h0_39 : Nat) (h0_40 : Nat) (h0_42 : Nat) (h0_44 : Nat) (h0_45 : Nat) (sz : Nat) : Met l yX12_told v_X12_told_v2 ({ frames := 1, cells := 0, slots := 0, locals := 40 }) (va_Pc [.ref h0, .int (-1)] (PreW G (tys6 cI cJ cZ cD cR cT) [(h0, .inr (12, [.int 0, .int 0, .ref h0_2, .ref h0_3, .ref h0_4, .ref h0_5, .int 0, .int 0, .int 0, .ref h0_9, .ref h0_10, .ref h0_11, .int 0, .int 0, .int 0, .int 0, .long 0, .int (-1), .int 0, .int 0, .ref h0_20, .int 0, .ref h0_22, .ref h0_23, .int 0, .ref h0_25, .ref h0_26, .int 0, .int 0, .ref h0_29, .ref h0_30, .ref h0_31, .ref h0_32, .int 0, .long 0, .long 0, .long 0, .long 0, .int 0, .ref h0_39, .ref h0_40, .int 0, .ref h0_42, .int 0, .ref h0_44, .ref h0_45, .int 0, .int 0, .int 0, .int 0, .int 0, .int 0]))] sz)) (QW (RI (fun r => r = (-1))) G (va_A [(h0, .inr (12, [.int 0, .int 0, .ref h0_2, .ref h0_3, .ref h0_4, .ref h0_5, .int 0, .int 0, .int 0, .ref h0_9, .ref h0_10, .ref h0_11, .int 0, .int 0, .int 0, .int 0, .long 0, .int (-1), .int 0, .int 0, .ref h0_20, .int 0, .ref h0_22, .ref h0_23, .int 0, .ref h0_25, .ref h0_26, .int 0, .int 0, .ref h0_29, .ref h0_30, .ref h0_31, .ref h0_32, .int 0, .long 0, .long 0, .long 0, .long 0, .int 0, .ref h0_39, .ref h0_40, .int 0, .ref h0_42, .int 0, .ref h0_44, .ref h0_45, .int 0, .int 0, .int 0, .int 0, .int 0, .int 0]))] sz) (fun q g => [(h0, .inr (12, [.int 0, .int (-1), .ref h0_2, .ref h0_3, .ref h0_4, .ref h0_5, .int 0, .int 0, .int 0, .ref h0_9, .ref h0_10, .ref h0_11, .int 0, .int 0, .int 0, .int 0, .long 0, .int (-1), .int 0, .int 0, .ref h0_20, .int 0, .ref h0_22, .ref h0_23, .int 0, .ref h0_25, .ref h0_26, .int 0, .int 0, .ref h0_29, .ref h0_30, .ref h0_31, .ref h0_32, .int 0, .long 0, .long 0, .long 0, .long 0, .int 0, .ref h0_39, .ref h0_40, .int 0, .ref h0_42, .int 0, .ref h0_44, .ref h0_45, .int 0, .int 0, .int 0, .int 0, .int 0, .int 0]))])) 0 0 (va_A [(h0, .inr (12, [.int 0, .int 0, .ref h0_2, .ref h0_3, .ref h0_4, .ref h0_5, .int 0, .int 0, .int 0, .ref h0_9, .ref h0_10, .ref h0_11, .int 0, .int 0, .int 0, .int 0, .long 0, .int (-1), .int 0, .int 0, .ref h0_20, .int 0, .ref h0_22, .ref h0_23, .int 0, .ref h0_25, .ref h0_26, .int 0, .int 0, .ref h0_29, .ref h0_30, .ref h0_31, .ref h0_32, .int 0, .long 0, .long 0, .long 0, .long 0, .int 0, .ref h0_39, .ref h0_40, .int 0, .ref h0_42, .int 0, .ref h0_44, .ref h0_45, .int 0, .int 0, .int 0, .int 0, .int 0, .int 0]))] sz) := by
  refine metW (cc := cX12_told) (maxL := 2) (ret := (some .int)) (by decide) rfl (Nat.le_of_ble_eq_true rfl) ?_
  intro p e s m below meth c A ls hx hb hr hml hown hts hlocks hin hKK hP hD hA hS hl
  have hK := hKK.1
  have hown : s.vm.findClass RX12 = some m.cls := hown
  have hl : lv_has ls 2 [(0, .ref h0), (1, .int (-1))] := hl
  have hP : va_P G vwCl [(h0, .inr (12, [.int 0, .int 0, .ref h0_2, .ref h0_3, .ref h0_4, .ref h0_5, .int 0, .int 0, .int 0, .ref h0_9, .ref h0_10, .ref h0_11, .int 0, .int 0, .int 0, .int 0, .long 0, .int (-1), .int 0, .int 0, .ref h0_20, .int 0, .ref h0_22, .ref h0_23, .int 0, .ref h0_25, .ref h0_26, .int 0, .int 0, .ref h0_29, .ref h0_30, .ref h0_31, .ref h0_32, .int 0, .long 0, .long 0, .long 0, .long 0, .int 0, .ref h0_39, .ref h0_40, .int 0, .ref h0_42, .int 0, .ref h0_44, .ref h0_45, .int 0, .int 0, .int 0, .int 0, .int 0, .int 0]))] s.heap := hP
  have hD : va_D A [(h0, .inr (12, [.int 0, .int 0, .ref h0_2, .ref h0_3, .ref h0_4, .ref h0_5, .int 0, .int 0, .int 0, .ref h0_9, .ref h0_10, .ref h0_11, .int 0, .int 0, .int 0, .int 0, .long 0, .int (-1), .int 0, .int 0, .ref h0_20, .int 0, .ref h0_22, .ref h0_23, .int 0, .ref h0_25, .ref h0_26, .int 0, .int 0, .ref h0_29, .ref h0_30, .ref h0_31, .ref h0_32, .int 0, .long 0, .long 0, .long 0, .long 0, .int 0, .ref h0_39, .ref h0_40, .int 0, .ref h0_42, .int 0, .ref h0_44, .ref h0_45, .int 0, .int 0, .int 0, .int 0, .int 0, .int 0]))] := hD
  refine lv_aload_n hx hb dX12_told_0 rfl (lv_at hl 0 rfl) ?_
  refine lv_iload_n hx hb dX12_told_1 rfl (lv_at hl 1 rfl) ?_
  refine lv_if_ge (tgt := 9) hx hb dX12_told_2 (by decide) (fun c => absurd c (by decide)) (fun _ => ?_)
  refine lv_iload_n hx hb dX12_told_5 rfl (lv_at hl 1 rfl) ?_
  refine lv_goto (tgt := 10) hx hb dX12_told_6 (by decide) ?_
  refine va_put (D := G) (ci := 12) (v := .int (-1)) (ty := .int) (C := RX12) (T := TX12) (N := 52) hx hb hts cm_X12_told_v2_0 tyX12 tyX12_ok nmX12 hown hK hP hD hS 0 rfl rfl 1 (by decide) (hts _ (dmem (j := 0) rfl)) (fun _ h9 => h9) rfl (by decide +kernel) rfl rfl (Nat.le_of_ble_eq_true rfl) dX12_told_10 (fun H locs => setW (ws' := [(h0, .inr (12, [.int 0, .int (-1), .ref h0_2, .ref h0_3, .ref h0_4, .ref h0_5, .int 0, .int 0, .int 0, .ref h0_9, .ref h0_10, .ref h0_11, .int 0, .int 0, .int 0, .int 0, .long 0, .int (-1), .int 0, .int 0, .ref h0_20, .int 0, .ref h0_22, .ref h0_23, .int 0, .ref h0_25, .ref h0_26, .int 0, .int 0, .ref h0_29, .ref h0_30, .ref h0_31, .ref h0_32, .int 0, .long 0, .long 0, .long 0, .long 0, .int 0, .ref h0_39, .ref h0_40, .int 0, .ref h0_42, .int 0, .ref h0_44, .ref h0_45, .int 0, .int 0, .int 0, .int 0, .int 0, .int 0]))]) rfl (fun hP hD hS => ?_))
  refine lv_iload_n hx hb dX12_told_13 rfl (lv_at hl 1 rfl) ?_
  exact retI hx hb hr hlocks ⟨_, rfl, rfl⟩ hP hD hS (fun _ => 0) (fun _ _ => 0) [0] (by decide +kernel) rfl dX12_told_14
def d_X12_person : List Cond := [Cond.fieldLink RX12 82 "NoRentModel" "thrown" "I", Cond.constantLong RX12 98 (19), Cond.methodLink RX12 90 yX12_in, Cond.static yX12_in, Cond.initialized RX12, Cond.constantLong RX12 100 (1000000), Cond.constantLong RX12 102 (100), Cond.fieldLink RX12 8 "NoRentModel" "row" "[I", Cond.methodLink RX12 104 yX12_personAt, Cond.static yX12_personAt, Cond.methodLink RX12 107 yX12_addFour, Cond.instanceMethod yX12_addFour, Cond.selects RX12 yX12_addFour yX12_addFour, Cond.methodLink RX12 94 yX12_told, Cond.instanceMethod yX12_told, Cond.selects RX12 yX12_told yX12_told]
def v_X12_person : List Cond := Cond.code yX12_person cX12_person 5 (some .int) :: (d_X12_person ++ (wsX120 ++ (v_X12_in ++ (v_X12_personAt_v1 ++ (v_X12_addFour_20 ++ (v_X12_addFour_24 ++ (v_X12_told_v1 ++ (v_X12_told_v2 ++ ([] : List Cond)))))))))
theorem cm_X12_person_0 : ∀ w ∈ wsX120, w ∈ v_X12_person := fun _ h => List.mem_cons_of_mem _ (List.mem_append_right _ (List.mem_append_left _ h))
theorem cm_X12_person_1 : ∀ w ∈ v_X12_in, w ∈ v_X12_person := fun _ h => List.mem_cons_of_mem _ (List.mem_append_right _ (List.mem_append_right _ (List.mem_append_left _ h)))
theorem cm_X12_person_2 : ∀ w ∈ v_X12_personAt_v1, w ∈ v_X12_person := fun _ h => List.mem_cons_of_mem _ (List.mem_append_right _ (List.mem_append_right _ (List.mem_append_right _ (List.mem_append_left _ h))))
theorem cm_X12_person_3 : ∀ w ∈ v_X12_addFour_20, w ∈ v_X12_person := fun _ h => List.mem_cons_of_mem _ (List.mem_append_right _ (List.mem_append_right _ (List.mem_append_right _ (List.mem_append_right _ (List.mem_append_left _ h)))))
theorem cm_X12_person_4 : ∀ w ∈ v_X12_addFour_24, w ∈ v_X12_person := fun _ h => List.mem_cons_of_mem _ (List.mem_append_right _ (List.mem_append_right _ (List.mem_append_right _ (List.mem_append_right _ (List.mem_append_right _ (List.mem_append_left _ h))))))
theorem cm_X12_person_5 : ∀ w ∈ v_X12_told_v1, w ∈ v_X12_person := fun _ h => List.mem_cons_of_mem _ (List.mem_append_right _ (List.mem_append_right _ (List.mem_append_right _ (List.mem_append_right _ (List.mem_append_right _ (List.mem_append_right _ (List.mem_append_left _ h)))))))
theorem cm_X12_person_6 : ∀ w ∈ v_X12_told_v2, w ∈ v_X12_person := fun _ h => List.mem_cons_of_mem _ (List.mem_append_right _ (List.mem_append_right _ (List.mem_append_right _ (List.mem_append_right _ (List.mem_append_right _ (List.mem_append_right _ (List.mem_append_right _ (List.mem_append_left _ h))))))))
theorem gd_X12_person : Gd v_X12_person := gd_mk (by decide +kernel) (gd_app gd_X12 (gd_app gd_X12_in (gd_app gd_X12_personAt_v1 (gd_app gd_X12_addFour_20 (gd_app gd_X12_addFour_24 (gd_app gd_X12_told_v1 (gd_app gd_X12_told_v2 gd_nil)))))))
set_option maxRecDepth 20000 in
theorem gv_X12_person_90_X12_in : GoodIn v_X12_person (va_wsS RX12 90 yX12_in v_X12_in) := goodIn_app (goodIn_of _ (by decide +kernel)) (gi cm_X12_person_1 gd_X12_in)
set_option maxRecDepth 20000 in
theorem gv_X12_person_104_X12_personAt_v1 : GoodIn v_X12_person (va_wsS RX12 104 yX12_personAt v_X12_personAt_v1) := goodIn_app (goodIn_of _ (by decide +kernel)) (gi cm_X12_person_2 gd_X12_personAt_v1)
set_option maxRecDepth 20000 in
theorem gv_X12_person_107_X12_addFour_20 : GoodIn v_X12_person (wsV RX12 107 RX12 yX12_addFour v_X12_addFour_20) := goodIn_app (goodIn_of _ (by decide +kernel)) (gi cm_X12_person_3 gd_X12_addFour_20)
set_option maxRecDepth 20000 in
theorem gv_X12_person_107_X12_addFour_24 : GoodIn v_X12_person (wsV RX12 107 RX12 yX12_addFour v_X12_addFour_24) := goodIn_app (goodIn_of _ (by decide +kernel)) (gi cm_X12_person_4 gd_X12_addFour_24)
set_option maxRecDepth 20000 in
theorem gv_X12_person_94_X12_told_v1 : GoodIn v_X12_person (wsV RX12 94 RX12 yX12_told v_X12_told_v1) := goodIn_app (goodIn_of _ (by decide +kernel)) (gi cm_X12_person_5 gd_X12_told_v1)
set_option maxRecDepth 20000 in
theorem gv_X12_person_94_X12_told_v2 : GoodIn v_X12_person (wsV RX12 94 RX12 yX12_told v_X12_told_v2) := goodIn_app (goodIn_of _ (by decide +kernel)) (gi cm_X12_person_6 gd_X12_told_v2)
set_option maxHeartbeats 4000000 in
set_option maxRecDepth 100000 in
theorem c_X12_person (l : Launch) (G : va_G) (cI cJ cZ cD cR cT : ClassId) (h0 : Nat) (u1 : Int32) (u2 : Int32) (u3 : Int32) (h0_2 : Nat) (h0_3 : Nat) (h0_4 : Nat) (h0_5 : Nat) (h0_9 : Nat) (h0_10 : Nat) (h0_11 : Nat) (h0_20 : Nat) (h0_22 : Nat) (h0_23 : Nat) (h0_25 : Nat) (h0_26 : Nat) (h0_29 : Nat) (h0_30 : Nat) (h0_31 : Nat) (h0_32 : Nat) (h0_39 : Nat) (h0_40 : Nat) (h0_42 : Nat) (h0_44 : Nat) (h0_45 : Nat) (sz : Nat) : Met l yX12_person v_X12_person ({ frames := 2, cells := 0, slots := 0, locals := 65 }) (va_Pc [.ref h0, .int u1, .int u2, .int u3] (PreW G (tys6 cI cJ cZ cD cR cT) [(h0, .inr (12, [.int 0, .int 0, .ref h0_2, .ref h0_3, .ref h0_4, .ref h0_5, .int 0, .int 0, .int 0, .ref h0_9, .ref h0_10, .ref h0_11, .int 0, .int 0, .int 0, .int 0, .long 0, .int (-1), .int 0, .int 0, .ref h0_20, .int 0, .ref h0_22, .ref h0_23, .int 0, .ref h0_25, .ref h0_26, .int 0, .int 0, .ref h0_29, .ref h0_30, .ref h0_31, .ref h0_32, .int 0, .long 0, .long 0, .long 0, .long 0, .int 0, .ref h0_39, .ref h0_40, .int 0, .ref h0_42, .int 0, .ref h0_44, .ref h0_45, .int 0, .int 0, .int 0, .int 0, .int 0, .int 0])), (h0_2, .inl (cI, 35942, .inl mrow))] sz)) (QW (RI (fun r => r = F_person u1 u2 u3)) G (va_A [(h0, .inr (12, [.int 0, .int 0, .ref h0_2, .ref h0_3, .ref h0_4, .ref h0_5, .int 0, .int 0, .int 0, .ref h0_9, .ref h0_10, .ref h0_11, .int 0, .int 0, .int 0, .int 0, .long 0, .int (-1), .int 0, .int 0, .ref h0_20, .int 0, .ref h0_22, .ref h0_23, .int 0, .ref h0_25, .ref h0_26, .int 0, .int 0, .ref h0_29, .ref h0_30, .ref h0_31, .ref h0_32, .int 0, .long 0, .long 0, .long 0, .long 0, .int 0, .ref h0_39, .ref h0_40, .int 0, .ref h0_42, .int 0, .ref h0_44, .ref h0_45, .int 0, .int 0, .int 0, .int 0, .int 0, .int 0])), (h0_2, .inl (cI, 35942, .inl mrow))] sz) (fun q g => [])) 0 0 (va_A [(h0, .inr (12, [.int 0, .int 0, .ref h0_2, .ref h0_3, .ref h0_4, .ref h0_5, .int 0, .int 0, .int 0, .ref h0_9, .ref h0_10, .ref h0_11, .int 0, .int 0, .int 0, .int 0, .long 0, .int (-1), .int 0, .int 0, .ref h0_20, .int 0, .ref h0_22, .ref h0_23, .int 0, .ref h0_25, .ref h0_26, .int 0, .int 0, .ref h0_29, .ref h0_30, .ref h0_31, .ref h0_32, .int 0, .long 0, .long 0, .long 0, .long 0, .int 0, .ref h0_39, .ref h0_40, .int 0, .ref h0_42, .int 0, .ref h0_44, .ref h0_45, .int 0, .int 0, .int 0, .int 0, .int 0, .int 0])), (h0_2, .inl (cI, 35942, .inl mrow))] sz) := by
  refine metW (cc := cX12_person) (maxL := 5) (ret := (some .int)) (by decide) rfl (Nat.le_of_ble_eq_true rfl) ?_
  intro p e s m below meth c A ls hx hb hr hml hown hts hlocks hin hKK hP hD hA hS hl
  have hK := hKK.1
  have hown : s.vm.findClass RX12 = some m.cls := hown
  have hl : lv_has ls 5 [(0, .ref h0), (1, .int u1), (2, .int u2), (3, .int u3)] := hl
  have hP : va_P G vwCl [(h0, .inr (12, [.int 0, .int 0, .ref h0_2, .ref h0_3, .ref h0_4, .ref h0_5, .int 0, .int 0, .int 0, .ref h0_9, .ref h0_10, .ref h0_11, .int 0, .int 0, .int 0, .int 0, .long 0, .int (-1), .int 0, .int 0, .ref h0_20, .int 0, .ref h0_22, .ref h0_23, .int 0, .ref h0_25, .ref h0_26, .int 0, .int 0, .ref h0_29, .ref h0_30, .ref h0_31, .ref h0_32, .int 0, .long 0, .long 0, .long 0, .long 0, .int 0, .ref h0_39, .ref h0_40, .int 0, .ref h0_42, .int 0, .ref h0_44, .ref h0_45, .int 0, .int 0, .int 0, .int 0, .int 0, .int 0])), (h0_2, .inl (cI, 35942, .inl mrow))] s.heap := hP
  have hD : va_D A [(h0, .inr (12, [.int 0, .int 0, .ref h0_2, .ref h0_3, .ref h0_4, .ref h0_5, .int 0, .int 0, .int 0, .ref h0_9, .ref h0_10, .ref h0_11, .int 0, .int 0, .int 0, .int 0, .long 0, .int (-1), .int 0, .int 0, .ref h0_20, .int 0, .ref h0_22, .ref h0_23, .int 0, .ref h0_25, .ref h0_26, .int 0, .int 0, .ref h0_29, .ref h0_30, .ref h0_31, .ref h0_32, .int 0, .long 0, .long 0, .long 0, .long 0, .int 0, .ref h0_39, .ref h0_40, .int 0, .ref h0_42, .int 0, .ref h0_44, .ref h0_45, .int 0, .int 0, .int 0, .int 0, .int 0, .int 0])), (h0_2, .inl (cI, 35942, .inl mrow))] := hD
  refine lv_aload_n hx hb dX12_person_0 rfl (lv_at hl 0 rfl) ?_
  refine lv_iconst (v := 0) hx hb dX12_person_1 (by decide) ?_
  refine va_put (D := G) (ci := 12) (v := .int 0) (ty := .int) (C := RX12) (T := TX12) (N := 52) hx hb hts cm_X12_person_0 tyX12 tyX12_ok nmX12 hown hK hP hD hS 0 rfl rfl 0 (by decide) (hts _ (dmem (j := 0) rfl)) (fun _ h9 => h9) rfl (by decide +kernel) rfl rfl (Nat.le_of_ble_eq_true rfl) dX12_person_2 (fun H locs => setW (ws' := [(h0, .inr (12, [.int 0, .int 0, .ref h0_2, .ref h0_3, .ref h0_4, .ref h0_5, .int 0, .int 0, .int 0, .ref h0_9, .ref h0_10, .ref h0_11, .int 0, .int 0, .int 0, .int 0, .long 0, .int (-1), .int 0, .int 0, .ref h0_20, .int 0, .ref h0_22, .ref h0_23, .int 0, .ref h0_25, .ref h0_26, .int 0, .int 0, .ref h0_29, .ref h0_30, .ref h0_31, .ref h0_32, .int 0, .long 0, .long 0, .long 0, .long 0, .int 0, .ref h0_39, .ref h0_40, .int 0, .ref h0_42, .int 0, .ref h0_44, .ref h0_45, .int 0, .int 0, .int 0, .int 0, .int 0, .int 0])), (h0_2, .inl (cI, 35942, .inl mrow))]) rfl (fun hP hD hS => ?_))
  refine lv_iload_n hx hb dX12_person_5 rfl (lv_at hl 1 rfl) ?_
  refine lv_i2l hx hb dX12_person_6 rfl ?_
  refine lv_lconst (v := 0) hx hb dX12_person_7 (by decide) ?_
  refine lv_ldc2 (v := 19) hx hb hown (hts _ (dmem (j := 1) rfl)) dX12_person_8 ?_
  refine goS (As := [.long (u1).toInt64, .long 0, .long 19]) (rest := []) (wr := [(h0, .inr (12, [.int 0, .int 0, .ref h0_2, .ref h0_3, .ref h0_4, .ref h0_5, .int 0, .int 0, .int 0, .ref h0_9, .ref h0_10, .ref h0_11, .int 0, .int 0, .int 0, .int 0, .long 0, .int (-1), .int 0, .int 0, .ref h0_20, .int 0, .ref h0_22, .ref h0_23, .int 0, .ref h0_25, .ref h0_26, .int 0, .int 0, .ref h0_29, .ref h0_30, .ref h0_31, .ref h0_32, .int 0, .long 0, .long 0, .long 0, .long 0, .int 0, .ref h0_39, .ref h0_40, .int 0, .ref h0_42, .int 0, .ref h0_44, .ref h0_45, .int 0, .int 0, .int 0, .int 0, .int 0, .int 0])), (h0_2, .inl (cI, 35942, .inl mrow))]) ⟨hx, hb, hml, hown, hts⟩ (c_X12_in l G cI cJ cZ cD cR cT (u1).toInt64 0 19 u1.toInt 0 19 _ (Int32.toInt_toInt64 u1) (by decide) (by decide)) (va_cwS 3 hts gv_X12_person_90_X12_in rfl rfl rfl (by decide +kernel) ⟨Nat.le_of_ble_eq_true rfl, Nat.le_of_ble_eq_true rfl⟩) hKK hP hD hS hA [] [0, 1] rfl rfl (by decide +kernel) (by decide +kernel) (by decide +kernel) rfl hl.1 rfl (lv_room (Nat.le_of_ble_eq_true rfl)) dX12_person_11 ⟨Nat.le_of_ble_eq_true rfl, Nat.le_of_ble_eq_true rfl⟩ (fun v2 q1 gq1 H locs hv2 => appW (ws' := [(h0, .inr (12, [.int 0, .int 0, .ref h0_2, .ref h0_3, .ref h0_4, .ref h0_5, .int 0, .int 0, .int 0, .ref h0_9, .ref h0_10, .ref h0_11, .int 0, .int 0, .int 0, .int 0, .long 0, .int (-1), .int 0, .int 0, .ref h0_20, .int 0, .ref h0_22, .ref h0_23, .int 0, .ref h0_25, .ref h0_26, .int 0, .int 0, .ref h0_29, .ref h0_30, .ref h0_31, .ref h0_32, .int 0, .long 0, .long 0, .long 0, .long 0, .int 0, .ref h0_39, .ref h0_40, .int 0, .ref h0_42, .int 0, .ref h0_44, .ref h0_45, .int 0, .int 0, .int 0, .int 0, .int 0, .int 0])), (h0_2, .inl (cI, 35942, .inl mrow))]) rfl (fun hP hD hS => ?_))
  obtain ⟨_, rfl, h4⟩ := hv2
  rcases h4 with ⟨rfl, h4⟩ | ⟨rfl, h4⟩
  · refine lv_if_eq (tgt := 41) hx hb dX12_person_14 (by decide) (fun c => absurd c (by decide)) (fun _ => ?_)
    refine lv_iload_n hx hb dX12_person_17 rfl (lv_at hl 2 rfl) ?_
    refine lv_i2l hx hb dX12_person_18 rfl ?_
    refine lv_lconst (v := 0) hx hb dX12_person_19 (by decide) ?_
    refine lv_ldc2 (v := 1000000) hx hb hown (hts _ (dmem (j := 5) rfl)) dX12_person_20 ?_
    refine goS (As := [.long (u2).toInt64, .long 0, .long 1000000]) (rest := []) (wr := [(h0, .inr (12, [.int 0, .int 0, .ref h0_2, .ref h0_3, .ref h0_4, .ref h0_5, .int 0, .int 0, .int 0, .ref h0_9, .ref h0_10, .ref h0_11, .int 0, .int 0, .int 0, .int 0, .long 0, .int (-1), .int 0, .int 0, .ref h0_20, .int 0, .ref h0_22, .ref h0_23, .int 0, .ref h0_25, .ref h0_26, .int 0, .int 0, .ref h0_29, .ref h0_30, .ref h0_31, .ref h0_32, .int 0, .long 0, .long 0, .long 0, .long 0, .int 0, .ref h0_39, .ref h0_40, .int 0, .ref h0_42, .int 0, .ref h0_44, .ref h0_45, .int 0, .int 0, .int 0, .int 0, .int 0, .int 0])), (h0_2, .inl (cI, 35942, .inl mrow))]) ⟨hx, hb, hml, hown, hts⟩ (c_X12_in l G cI cJ cZ cD cR cT (u2).toInt64 0 1000000 u2.toInt 0 1000000 _ (Int32.toInt_toInt64 u2) (by decide) (by decide)) (va_cwS 3 hts gv_X12_person_90_X12_in rfl rfl rfl (by decide +kernel) ⟨Nat.le_of_ble_eq_true rfl, Nat.le_of_ble_eq_true rfl⟩) hKK hP hD hS hA [] [0, 1] rfl rfl (by decide +kernel) (by decide +kernel) (by decide +kernel) rfl hl.1 rfl (lv_room (Nat.le_of_ble_eq_true rfl)) dX12_person_23 ⟨Nat.le_of_ble_eq_true rfl, Nat.le_of_ble_eq_true rfl⟩ (fun v6 q5 gq5 H locs hv6 => appW (ws' := [(h0, .inr (12, [.int 0, .int 0, .ref h0_2, .ref h0_3, .ref h0_4, .ref h0_5, .int 0, .int 0, .int 0, .ref h0_9, .ref h0_10, .ref h0_11, .int 0, .int 0, .int 0, .int 0, .long 0, .int (-1), .int 0, .int 0, .ref h0_20, .int 0, .ref h0_22, .ref h0_23, .int 0, .ref h0_25, .ref h0_26, .int 0, .int 0, .ref h0_29, .ref h0_30, .ref h0_31, .ref h0_32, .int 0, .long 0, .long 0, .long 0, .long 0, .int 0, .ref h0_39, .ref h0_40, .int 0, .ref h0_42, .int 0, .ref h0_44, .ref h0_45, .int 0, .int 0, .int 0, .int 0, .int 0, .int 0])), (h0_2, .inl (cI, 35942, .inl mrow))]) rfl (fun hP hD hS => ?_))
    obtain ⟨_, rfl, h8⟩ := hv6
    rcases h8 with ⟨rfl, h8⟩ | ⟨rfl, h8⟩
    · refine lv_if_eq (tgt := 41) hx hb dX12_person_26 (by decide) (fun c => absurd c (by decide)) (fun _ => ?_)
      refine lv_iload_n hx hb dX12_person_29 rfl (lv_at hl 3 rfl) ?_
      refine lv_i2l hx hb dX12_person_30 rfl ?_
      refine lv_lconst (v := 0) hx hb dX12_person_31 (by decide) ?_
      refine lv_ldc2 (v := 100) hx hb hown (hts _ (dmem (j := 6) rfl)) dX12_person_32 ?_
      refine goS (As := [.long (u3).toInt64, .long 0, .long 100]) (rest := []) (wr := [(h0, .inr (12, [.int 0, .int 0, .ref h0_2, .ref h0_3, .ref h0_4, .ref h0_5, .int 0, .int 0, .int 0, .ref h0_9, .ref h0_10, .ref h0_11, .int 0, .int 0, .int 0, .int 0, .long 0, .int (-1), .int 0, .int 0, .ref h0_20, .int 0, .ref h0_22, .ref h0_23, .int 0, .ref h0_25, .ref h0_26, .int 0, .int 0, .ref h0_29, .ref h0_30, .ref h0_31, .ref h0_32, .int 0, .long 0, .long 0, .long 0, .long 0, .int 0, .ref h0_39, .ref h0_40, .int 0, .ref h0_42, .int 0, .ref h0_44, .ref h0_45, .int 0, .int 0, .int 0, .int 0, .int 0, .int 0])), (h0_2, .inl (cI, 35942, .inl mrow))]) ⟨hx, hb, hml, hown, hts⟩ (c_X12_in l G cI cJ cZ cD cR cT (u3).toInt64 0 100 u3.toInt 0 100 _ (Int32.toInt_toInt64 u3) (by decide) (by decide)) (va_cwS 3 hts gv_X12_person_90_X12_in rfl rfl rfl (by decide +kernel) ⟨Nat.le_of_ble_eq_true rfl, Nat.le_of_ble_eq_true rfl⟩) hKK hP hD hS hA [] [0, 1] rfl rfl (by decide +kernel) (by decide +kernel) (by decide +kernel) rfl hl.1 rfl (lv_room (Nat.le_of_ble_eq_true rfl)) dX12_person_35 ⟨Nat.le_of_ble_eq_true rfl, Nat.le_of_ble_eq_true rfl⟩ (fun v10 q9 gq9 H locs hv10 => appW (ws' := [(h0, .inr (12, [.int 0, .int 0, .ref h0_2, .ref h0_3, .ref h0_4, .ref h0_5, .int 0, .int 0, .int 0, .ref h0_9, .ref h0_10, .ref h0_11, .int 0, .int 0, .int 0, .int 0, .long 0, .int (-1), .int 0, .int 0, .ref h0_20, .int 0, .ref h0_22, .ref h0_23, .int 0, .ref h0_25, .ref h0_26, .int 0, .int 0, .ref h0_29, .ref h0_30, .ref h0_31, .ref h0_32, .int 0, .long 0, .long 0, .long 0, .long 0, .int 0, .ref h0_39, .ref h0_40, .int 0, .ref h0_42, .int 0, .ref h0_44, .ref h0_45, .int 0, .int 0, .int 0, .int 0, .int 0, .int 0])), (h0_2, .inl (cI, 35942, .inl mrow))]) rfl (fun hP hD hS => ?_))
      obtain ⟨_, rfl, h12⟩ := hv10
      rcases h12 with ⟨rfl, h12⟩ | ⟨rfl, h12⟩
      · refine lv_if_ne (tgt := 47) hx hb dX12_person_38 (by decide) (fun _ => ?_) (fun c => absurd c (by decide))
        refine lv_aload_n hx hb dX12_person_47 rfl (lv_at hl 0 rfl) ?_
        refine va_get (D := G) (ci := 12) (v := .ref h0_2) (C := RX12) (T := TX12) (N := 52) hx hb hts cm_X12_person_0 hown hK hP 0 rfl rfl 2 (by decide) (hts _ (dmem (j := 7) rfl)) (fun _ h9 => h9) rfl dX12_person_48 ?_
        refine lv_iconst (v := 0) hx hb dX12_person_51 (by decide) ?_
        refine va_iald hx hb hK hP 1 0 rfl rfl (vp_in_iff.mpr (by decide)) dX12_person_52 ?_
        refine lv_topi (fun x13 ex13 => ?_)
        obtain rfl : 0 = x13 := (ex13.trans (by first | rfl | decide | (simp [upd, mrow]; done))).symm
        refine lv_bipush (v := 40) hx hb dX12_person_53 (by decide) ?_
        refine lv_icmp_ne (tgt := 65) hx hb dX12_person_55 (by decide) (fun _ => ?_) (fun c => absurd c (by decide))
        refine lv_aload_n hx hb dX12_person_65 rfl (lv_at hl 0 rfl) ?_
        refine va_get (D := G) (ci := 12) (v := .ref h0_2) (C := RX12) (T := TX12) (N := 52) hx hb hts cm_X12_person_0 hown hK hP 0 rfl rfl 2 (by decide) (hts _ (dmem (j := 7) rfl)) (fun _ h9 => h9) rfl dX12_person_66 ?_
        refine lv_iconst (v := 0) hx hb dX12_person_69 (by decide) ?_
        refine va_iald hx hb hK hP 1 0 rfl rfl (vp_in_iff.mpr (by decide)) dX12_person_70 ?_
        refine lv_topi (fun x14 ex14 => ?_)
        obtain rfl : 0 = x14 := (ex14.trans (by first | rfl | decide | (simp [upd, mrow]; done))).symm
        refine goS (As := [.int 0]) (rest := []) (wr := [(h0, .inr (12, [.int 0, .int 0, .ref h0_2, .ref h0_3, .ref h0_4, .ref h0_5, .int 0, .int 0, .int 0, .ref h0_9, .ref h0_10, .ref h0_11, .int 0, .int 0, .int 0, .int 0, .long 0, .int (-1), .int 0, .int 0, .ref h0_20, .int 0, .ref h0_22, .ref h0_23, .int 0, .ref h0_25, .ref h0_26, .int 0, .int 0, .ref h0_29, .ref h0_30, .ref h0_31, .ref h0_32, .int 0, .long 0, .long 0, .long 0, .long 0, .int 0, .ref h0_39, .ref h0_40, .int 0, .ref h0_42, .int 0, .ref h0_44, .ref h0_45, .int 0, .int 0, .int 0, .int 0, .int 0, .int 0])), (h0_2, .inl (cI, 35942, .inl mrow))]) ⟨hx, hb, hml, hown, hts⟩ (c_X12_personAt_v1 l G cI cJ cZ cD cR cT _) (va_cwS 1 hts gv_X12_person_104_X12_personAt_v1 rfl rfl rfl (by decide +kernel) ⟨Nat.le_of_ble_eq_true rfl, Nat.le_of_ble_eq_true rfl⟩) hKK hP hD hS hA [] [0, 1] rfl rfl (by decide +kernel) (by decide +kernel) (by decide +kernel) rfl hl.1 rfl (lv_room (Nat.le_of_ble_eq_true rfl)) dX12_person_71 ⟨Nat.le_of_ble_eq_true rfl, Nat.le_of_ble_eq_true rfl⟩ (fun v16 q15 gq15 H locs hv16 => appW (ws' := [(h0, .inr (12, [.int 0, .int 0, .ref h0_2, .ref h0_3, .ref h0_4, .ref h0_5, .int 0, .int 0, .int 0, .ref h0_9, .ref h0_10, .ref h0_11, .int 0, .int 0, .int 0, .int 0, .long 0, .int (-1), .int 0, .int 0, .ref h0_20, .int 0, .ref h0_22, .ref h0_23, .int 0, .ref h0_25, .ref h0_26, .int 0, .int 0, .ref h0_29, .ref h0_30, .ref h0_31, .ref h0_32, .int 0, .long 0, .long 0, .long 0, .long 0, .int 0, .ref h0_39, .ref h0_40, .int 0, .ref h0_42, .int 0, .ref h0_44, .ref h0_45, .int 0, .int 0, .int 0, .int 0, .int 0, .int 0])), (h0_2, .inl (cI, 35942, .inl mrow))]) rfl (fun hP hD hS => ?_))
        obtain ⟨_, rfl, rfl⟩ := hv16
        refine lv_istore (lv' := [(4, .int 20), (0, .ref h0), (1, .int u1), (2, .int u2), (3, .int u3)]) hx hb dX12_person_74 hl (by decide) rfl (fun ls hl => ?_)
        refine lv_aload_n hx hb dX12_person_76 rfl (lv_at hl 1 rfl) ?_
        refine lv_iload hx hb dX12_person_77 (lv_at hl 0 rfl) ?_
        refine lv_iload_n hx hb dX12_person_79 rfl (lv_at hl 2 rfl) ?_
        refine lv_iload_n hx hb dX12_person_80 rfl (lv_at hl 3 rfl) ?_
        refine lv_iload_n hx hb dX12_person_81 rfl (lv_at hl 4 rfl) ?_
        refine lv_iconst (v := (-1)) hx hb dX12_person_82 (by decide) ?_
        refine goV (As := [.int 20, .int u1, .int u2, .int u3, .int (-1)]) (rest := []) (wr := []) ⟨hx, hb, hml, hown, hts⟩ (c_X12_addFour_20 l G cI cJ cZ cD cR cT h0 u1 u2 u3 (-1) h0_2 h0_3 h0_4 h0_5 h0_9 h0_10 h0_11 h0_20 h0_22 h0_23 h0_25 h0_26 h0_29 h0_30 h0_31 h0_32 h0_39 h0_40 h0_42 h0_44 h0_45 mrow _) (cwV 5 hts gv_X12_person_107_X12_addFour_20 rfl rfl rfl (by decide +kernel) ⟨Nat.le_of_ble_eq_true rfl, Nat.le_of_ble_eq_true rfl⟩) 0 rfl rfl rfl hKK hP hD hS hA [0, 1] [] rfl rfl (by decide +kernel) (by decide +kernel) (by decide +kernel) rfl hl.1 rfl (lv_room (Nat.le_of_ble_eq_true rfl)) dX12_person_83 ⟨Nat.le_of_ble_eq_true rfl, Nat.le_of_ble_eq_true rfl⟩ (fun v19 q18 gq18 H locs hv19 => appW (ws' := [(h0, .inr (12, [.int 0, .int 0, .ref h0_2, .ref h0_3, .ref h0_4, .ref h0_5, .int 0, .int 0, .int 0, .ref h0_9, .ref h0_10, .ref h0_11, .int 0, .int 0, .int 0, .int 0, .long 0, .int (-1), .int 0, .int 0, .ref h0_20, .int 0, .ref h0_22, .ref h0_23, .int 0, .ref h0_25, .ref h0_26, .int 0, .int 0, .ref h0_29, .ref h0_30, .ref h0_31, .ref h0_32, .int 0, .long 0, .long 0, .long 0, .long 0, .int 0, .ref h0_39, .ref h0_40, .int 0, .ref h0_42, .int 0, .ref h0_44, .ref h0_45, .int 0, .int 0, .int 0, .int 0, .int 0, .int 0])), (h0_2, .inl (cI, 35942, .inl (upd (upd (upd (upd mrow 20 u1) 21 u2) 22 u3) 23 (-1))))]) rfl (fun hP hD hS => ?_))
        obtain rfl := hv19
        refine lv_aload_n hx hb dX12_person_86 rfl (lv_at hl 1 rfl) ?_
        refine lv_iload hx hb dX12_person_87 (lv_at hl 0 rfl) ?_
        refine lv_iconst (v := 4) hx hb dX12_person_89 (by decide) ?_
        refine lv_iadd hx hb dX12_person_90 ?_
        refine lv_topi (fun x20 ex20 => ?_)
        obtain rfl : 24 = x20 := (ex20.trans (by decide)).symm
        refine lv_iconst (v := 0) hx hb dX12_person_91 (by decide) ?_
        refine lv_iconst (v := 0) hx hb dX12_person_92 (by decide) ?_
        refine lv_iconst (v := 0) hx hb dX12_person_93 (by decide) ?_
        refine lv_iconst (v := (-1)) hx hb dX12_person_94 (by decide) ?_
        refine goV (As := [.int 24, .int 0, .int 0, .int 0, .int (-1)]) (rest := []) (wr := []) ⟨hx, hb, hml, hown, hts⟩ (c_X12_addFour_24 l G cI cJ cZ cD cR cT h0 0 0 0 (-1) h0_2 h0_3 h0_4 h0_5 h0_9 h0_10 h0_11 h0_20 h0_22 h0_23 h0_25 h0_26 h0_29 h0_30 h0_31 h0_32 h0_39 h0_40 h0_42 h0_44 h0_45 (upd (upd (upd (upd mrow 20 u1) 21 u2) 22 u3) 23 (-1)) _) (cwV 5 hts gv_X12_person_107_X12_addFour_24 rfl rfl rfl (by decide +kernel) ⟨Nat.le_of_ble_eq_true rfl, Nat.le_of_ble_eq_true rfl⟩) 0 rfl rfl rfl hKK hP hD hS hA [0, 1] [] rfl rfl (by decide +kernel) (by decide +kernel) (by decide +kernel) rfl hl.1 rfl (lv_room (Nat.le_of_ble_eq_true rfl)) dX12_person_95 ⟨Nat.le_of_ble_eq_true rfl, Nat.le_of_ble_eq_true rfl⟩ (fun v22 q21 gq21 H locs hv22 => appW (ws' := [(h0, .inr (12, [.int 0, .int 0, .ref h0_2, .ref h0_3, .ref h0_4, .ref h0_5, .int 0, .int 0, .int 0, .ref h0_9, .ref h0_10, .ref h0_11, .int 0, .int 0, .int 0, .int 0, .long 0, .int (-1), .int 0, .int 0, .ref h0_20, .int 0, .ref h0_22, .ref h0_23, .int 0, .ref h0_25, .ref h0_26, .int 0, .int 0, .ref h0_29, .ref h0_30, .ref h0_31, .ref h0_32, .int 0, .long 0, .long 0, .long 0, .long 0, .int 0, .ref h0_39, .ref h0_40, .int 0, .ref h0_42, .int 0, .ref h0_44, .ref h0_45, .int 0, .int 0, .int 0, .int 0, .int 0, .int 0])), (h0_2, .inl (cI, 35942, .inl (upd (upd (upd (upd (upd (upd (upd (upd mrow 20 u1) 21 u2) 22 u3) 23 (-1)) 24 0) 25 0) 26 0) 27 (-1))))]) rfl (fun hP hD hS => ?_))
        obtain rfl := hv22
        refine lv_aload_n hx hb dX12_person_98 rfl (lv_at hl 1 rfl) ?_
        refine va_get (D := G) (ci := 12) (v := .ref h0_2) (C := RX12) (T := TX12) (N := 52) hx hb hts cm_X12_person_0 hown hK hP 0 rfl rfl 2 (by decide) (hts _ (dmem (j := 7) rfl)) (fun _ h9 => h9) rfl dX12_person_99 ?_
        refine lv_iconst (v := 0) hx hb dX12_person_102 (by decide) ?_
        refine lv_dup2_11 hx hb dX12_person_103 rfl rfl ?_
        refine va_iald hx hb hK hP 1 0 rfl rfl (vp_in_iff.mpr (by decide)) dX12_person_104 ?_
        refine lv_topi (fun x23 ex23 => ?_)
        obtain rfl : 0 = x23 := (ex23.trans (by first | rfl | decide | (simp [upd, mrow]; done))).symm
        refine lv_iconst (v := 1) hx hb dX12_person_105 (by decide) ?_
        refine lv_iadd hx hb dX12_person_106 ?_
        refine lv_topi (fun x24 ex24 => ?_)
        obtain rfl : 1 = x24 := (ex24.trans (by decide)).symm
        refine va_iast hx hb hK hP hD hS 1 0 rfl rfl (vp_in_iff.mpr (by decide)) dX12_person_107 (fun H locs => setW (ws' := [(h0, .inr (12, [.int 0, .int 0, .ref h0_2, .ref h0_3, .ref h0_4, .ref h0_5, .int 0, .int 0, .int 0, .ref h0_9, .ref h0_10, .ref h0_11, .int 0, .int 0, .int 0, .int 0, .long 0, .int (-1), .int 0, .int 0, .ref h0_20, .int 0, .ref h0_22, .ref h0_23, .int 0, .ref h0_25, .ref h0_26, .int 0, .int 0, .ref h0_29, .ref h0_30, .ref h0_31, .ref h0_32, .int 0, .long 0, .long 0, .long 0, .long 0, .int 0, .ref h0_39, .ref h0_40, .int 0, .ref h0_42, .int 0, .ref h0_44, .ref h0_45, .int 0, .int 0, .int 0, .int 0, .int 0, .int 0])), (h0_2, .inl (cI, 35942, .inl (upd (upd (upd (upd (upd (upd (upd (upd (upd mrow 20 u1) 21 u2) 22 u3) 23 (-1)) 24 0) 25 0) 26 0) 27 (-1)) 0 1)))]) rfl (fun hP hD hS => ?_))
        refine lv_aload_n hx hb dX12_person_108 rfl (lv_at hl 1 rfl) ?_
        refine lv_aload_n hx hb dX12_person_109 rfl (lv_at hl 1 rfl) ?_
        refine va_get (D := G) (ci := 12) (v := .ref h0_2) (C := RX12) (T := TX12) (N := 52) hx hb hts cm_X12_person_0 hown hK hP 0 rfl rfl 2 (by decide) (hts _ (dmem (j := 7) rfl)) (fun _ h9 => h9) rfl dX12_person_110 ?_
        refine lv_iconst (v := 0) hx hb dX12_person_113 (by decide) ?_
        refine va_iald hx hb hK hP 1 0 rfl rfl (vp_in_iff.mpr (by decide)) dX12_person_114 ?_
        refine lv_topi (fun x25 ex25 => ?_)
        obtain rfl : 1 = x25 := (ex25.trans (by first | rfl | decide | (simp [upd, mrow]; done))).symm
        refine lv_iconst (v := 1) hx hb dX12_person_115 (by decide) ?_
        refine lv_isub hx hb dX12_person_116 ?_
        refine lv_topi (fun x26 ex26 => ?_)
        obtain rfl : 0 = x26 := (ex26.trans (by decide)).symm
        refine goV (As := [.int 0]) (rest := []) (wr := [(h0_2, .inl (cI, 35942, .inl (upd (upd (upd (upd (upd (upd (upd (upd (upd mrow 20 u1) 21 u2) 22 u3) 23 (-1)) 24 0) 25 0) 26 0) 27 (-1)) 0 1)))]) ⟨hx, hb, hml, hown, hts⟩ (c_X12_told_v1 l G cI cJ cZ cD cR cT h0 h0_2 h0_3 h0_4 h0_5 h0_9 h0_10 h0_11 h0_20 h0_22 h0_23 h0_25 h0_26 h0_29 h0_30 h0_31 h0_32 h0_39 h0_40 h0_42 h0_44 h0_45 _) (cwV 1 hts gv_X12_person_94_X12_told_v1 rfl rfl rfl (by decide +kernel) ⟨Nat.le_of_ble_eq_true rfl, Nat.le_of_ble_eq_true rfl⟩) 0 rfl rfl rfl hKK hP hD hS hA [0] [1] rfl rfl (by decide +kernel) (by decide +kernel) (by decide +kernel) rfl hl.1 rfl (lv_room (Nat.le_of_ble_eq_true rfl)) dX12_person_117 ⟨Nat.le_of_ble_eq_true rfl, Nat.le_of_ble_eq_true rfl⟩ (fun v28 q27 gq27 H locs hv28 => appW (ws' := [(h0_2, .inl (cI, 35942, .inl (upd (upd (upd (upd (upd (upd (upd (upd (upd mrow 20 u1) 21 u2) 22 u3) 23 (-1)) 24 0) 25 0) 26 0) 27 (-1)) 0 1))), (h0, .inr (12, [.int 0, .int 0, .ref h0_2, .ref h0_3, .ref h0_4, .ref h0_5, .int 0, .int 0, .int 0, .ref h0_9, .ref h0_10, .ref h0_11, .int 0, .int 0, .int 0, .int 0, .long 0, .int (-1), .int 0, .int 0, .ref h0_20, .int 0, .ref h0_22, .ref h0_23, .int 0, .ref h0_25, .ref h0_26, .int 0, .int 0, .ref h0_29, .ref h0_30, .ref h0_31, .ref h0_32, .int 0, .long 0, .long 0, .long 0, .long 0, .int 0, .ref h0_39, .ref h0_40, .int 0, .ref h0_42, .int 0, .ref h0_44, .ref h0_45, .int 0, .int 0, .int 0, .int 0, .int 0, .int 0]))]) rfl (fun hP hD hS => ?_))
        obtain ⟨_, rfl, rfl⟩ := hv28
        exact retI hx hb hr hlocks ⟨_, rfl, by have hz0 : (0 : Int32).toInt = 0 := rfl; have hz1 : (1 : Int32).toInt = 1 := rfl; unfold F_person; (repeat' split) <;> first | rfl | (exfalso; omega)⟩ hP hD hS (fun _ => 0) (fun _ _ => 0) [] (by decide +kernel) rfl dX12_person_120
      · refine lv_if_ne (tgt := 47) hx hb dX12_person_38 (by decide) (fun c => absurd c (by decide)) (fun _ => ?_)
        refine lv_aload_n hx hb dX12_person_41 rfl (lv_at hl 0 rfl) ?_
        refine lv_iconst (v := (-1)) hx hb dX12_person_42 (by decide) ?_
        refine goV (As := [.int (-1)]) (rest := []) (wr := [(h0_2, .inl (cI, 35942, .inl mrow))]) ⟨hx, hb, hml, hown, hts⟩ (c_X12_told_v2 l G cI cJ cZ cD cR cT h0 h0_2 h0_3 h0_4 h0_5 h0_9 h0_10 h0_11 h0_20 h0_22 h0_23 h0_25 h0_26 h0_29 h0_30 h0_31 h0_32 h0_39 h0_40 h0_42 h0_44 h0_45 _) (cwV 1 hts gv_X12_person_94_X12_told_v2 rfl rfl rfl (by decide +kernel) ⟨Nat.le_of_ble_eq_true rfl, Nat.le_of_ble_eq_true rfl⟩) 0 rfl rfl rfl hKK hP hD hS hA [0] [1] rfl rfl (by decide +kernel) (by decide +kernel) (by decide +kernel) rfl hl.1 rfl (lv_room (Nat.le_of_ble_eq_true rfl)) dX12_person_43 ⟨Nat.le_of_ble_eq_true rfl, Nat.le_of_ble_eq_true rfl⟩ (fun v31 q30 gq30 H locs hv31 => appW (ws' := [(h0_2, .inl (cI, 35942, .inl mrow)), (h0, .inr (12, [.int 0, .int (-1), .ref h0_2, .ref h0_3, .ref h0_4, .ref h0_5, .int 0, .int 0, .int 0, .ref h0_9, .ref h0_10, .ref h0_11, .int 0, .int 0, .int 0, .int 0, .long 0, .int (-1), .int 0, .int 0, .ref h0_20, .int 0, .ref h0_22, .ref h0_23, .int 0, .ref h0_25, .ref h0_26, .int 0, .int 0, .ref h0_29, .ref h0_30, .ref h0_31, .ref h0_32, .int 0, .long 0, .long 0, .long 0, .long 0, .int 0, .ref h0_39, .ref h0_40, .int 0, .ref h0_42, .int 0, .ref h0_44, .ref h0_45, .int 0, .int 0, .int 0, .int 0, .int 0, .int 0]))]) rfl (fun hP hD hS => ?_))
        obtain ⟨_, rfl, rfl⟩ := hv31
        exact retI hx hb hr hlocks ⟨_, rfl, by have hz0 : (0 : Int32).toInt = 0 := rfl; have hz1 : (1 : Int32).toInt = 1 := rfl; unfold F_person; (repeat' split) <;> first | rfl | (exfalso; omega)⟩ hP hD hS (fun _ => 0) (fun _ _ => 0) [] (by decide +kernel) rfl dX12_person_46
    · refine lv_if_eq (tgt := 41) hx hb dX12_person_26 (by decide) (fun _ => ?_) (fun c => absurd c (by decide))
      refine lv_aload_n hx hb dX12_person_41 rfl (lv_at hl 0 rfl) ?_
      refine lv_iconst (v := (-1)) hx hb dX12_person_42 (by decide) ?_
      refine goV (As := [.int (-1)]) (rest := []) (wr := [(h0_2, .inl (cI, 35942, .inl mrow))]) ⟨hx, hb, hml, hown, hts⟩ (c_X12_told_v2 l G cI cJ cZ cD cR cT h0 h0_2 h0_3 h0_4 h0_5 h0_9 h0_10 h0_11 h0_20 h0_22 h0_23 h0_25 h0_26 h0_29 h0_30 h0_31 h0_32 h0_39 h0_40 h0_42 h0_44 h0_45 _) (cwV 1 hts gv_X12_person_94_X12_told_v2 rfl rfl rfl (by decide +kernel) ⟨Nat.le_of_ble_eq_true rfl, Nat.le_of_ble_eq_true rfl⟩) 0 rfl rfl rfl hKK hP hD hS hA [0] [1] rfl rfl (by decide +kernel) (by decide +kernel) (by decide +kernel) rfl hl.1 rfl (lv_room (Nat.le_of_ble_eq_true rfl)) dX12_person_43 ⟨Nat.le_of_ble_eq_true rfl, Nat.le_of_ble_eq_true rfl⟩ (fun v34 q33 gq33 H locs hv34 => appW (ws' := [(h0_2, .inl (cI, 35942, .inl mrow)), (h0, .inr (12, [.int 0, .int (-1), .ref h0_2, .ref h0_3, .ref h0_4, .ref h0_5, .int 0, .int 0, .int 0, .ref h0_9, .ref h0_10, .ref h0_11, .int 0, .int 0, .int 0, .int 0, .long 0, .int (-1), .int 0, .int 0, .ref h0_20, .int 0, .ref h0_22, .ref h0_23, .int 0, .ref h0_25, .ref h0_26, .int 0, .int 0, .ref h0_29, .ref h0_30, .ref h0_31, .ref h0_32, .int 0, .long 0, .long 0, .long 0, .long 0, .int 0, .ref h0_39, .ref h0_40, .int 0, .ref h0_42, .int 0, .ref h0_44, .ref h0_45, .int 0, .int 0, .int 0, .int 0, .int 0, .int 0]))]) rfl (fun hP hD hS => ?_))
      obtain ⟨_, rfl, rfl⟩ := hv34
      exact retI hx hb hr hlocks ⟨_, rfl, by have hz0 : (0 : Int32).toInt = 0 := rfl; have hz1 : (1 : Int32).toInt = 1 := rfl; unfold F_person; (repeat' split) <;> first | rfl | (exfalso; omega)⟩ hP hD hS (fun _ => 0) (fun _ _ => 0) [] (by decide +kernel) rfl dX12_person_46
  · refine lv_if_eq (tgt := 41) hx hb dX12_person_14 (by decide) (fun _ => ?_) (fun c => absurd c (by decide))
    refine lv_aload_n hx hb dX12_person_41 rfl (lv_at hl 0 rfl) ?_
    refine lv_iconst (v := (-1)) hx hb dX12_person_42 (by decide) ?_
    refine goV (As := [.int (-1)]) (rest := []) (wr := [(h0_2, .inl (cI, 35942, .inl mrow))]) ⟨hx, hb, hml, hown, hts⟩ (c_X12_told_v2 l G cI cJ cZ cD cR cT h0 h0_2 h0_3 h0_4 h0_5 h0_9 h0_10 h0_11 h0_20 h0_22 h0_23 h0_25 h0_26 h0_29 h0_30 h0_31 h0_32 h0_39 h0_40 h0_42 h0_44 h0_45 _) (cwV 1 hts gv_X12_person_94_X12_told_v2 rfl rfl rfl (by decide +kernel) ⟨Nat.le_of_ble_eq_true rfl, Nat.le_of_ble_eq_true rfl⟩) 0 rfl rfl rfl hKK hP hD hS hA [0] [1] rfl rfl (by decide +kernel) (by decide +kernel) (by decide +kernel) rfl hl.1 rfl (lv_room (Nat.le_of_ble_eq_true rfl)) dX12_person_43 ⟨Nat.le_of_ble_eq_true rfl, Nat.le_of_ble_eq_true rfl⟩ (fun v37 q36 gq36 H locs hv37 => appW (ws' := [(h0_2, .inl (cI, 35942, .inl mrow)), (h0, .inr (12, [.int 0, .int (-1), .ref h0_2, .ref h0_3, .ref h0_4, .ref h0_5, .int 0, .int 0, .int 0, .ref h0_9, .ref h0_10, .ref h0_11, .int 0, .int 0, .int 0, .int 0, .long 0, .int (-1), .int 0, .int 0, .ref h0_20, .int 0, .ref h0_22, .ref h0_23, .int 0, .ref h0_25, .ref h0_26, .int 0, .int 0, .ref h0_29, .ref h0_30, .ref h0_31, .ref h0_32, .int 0, .long 0, .long 0, .long 0, .long 0, .int 0, .ref h0_39, .ref h0_40, .int 0, .ref h0_42, .int 0, .ref h0_44, .ref h0_45, .int 0, .int 0, .int 0, .int 0, .int 0, .int 0]))]) rfl (fun hP hD hS => ?_))
    obtain ⟨_, rfl, rfl⟩ := hv37
    exact retI hx hb hr hlocks ⟨_, rfl, by have hz0 : (0 : Int32).toInt = 0 := rfl; have hz1 : (1 : Int32).toInt = 1 := rfl; unfold F_person; (repeat' split) <;> first | rfl | (exfalso; omega)⟩ hP hD hS (fun _ => 0) (fun _ _ => 0) [] (by decide +kernel) rfl dX12_person_46
def d_X12_isPerson_v1 : List Cond := [Cond.fieldLink RX12 8 "NoRentModel" "row" "[I", Cond.methodLink RX12 90 yX12_in, Cond.static yX12_in, Cond.initialized RX12]
def v_X12_isPerson_v1 : List Cond := Cond.code yX12_isPerson cX12_isPerson 2 (some .boolean) :: (d_X12_isPerson_v1 ++ (wsX120 ++ (v_X12_in ++ ([] : List Cond))))
theorem cm_X12_isPerson_v1_0 : ∀ w ∈ wsX120, w ∈ v_X12_isPerson_v1 := fun _ h => List.mem_cons_of_mem _ (List.mem_append_right _ (List.mem_append_left _ h))
theorem cm_X12_isPerson_v1_1 : ∀ w ∈ v_X12_in, w ∈ v_X12_isPerson_v1 := fun _ h => List.mem_cons_of_mem _ (List.mem_append_right _ (List.mem_append_right _ (List.mem_append_left _ h)))
theorem gd_X12_isPerson_v1 : Gd v_X12_isPerson_v1 := gd_mk (by decide +kernel) (gd_app gd_X12 (gd_app gd_X12_in gd_nil))
set_option maxRecDepth 20000 in
theorem gv_X12_isPerson_v1_90_X12_in : GoodIn v_X12_isPerson_v1 (va_wsS RX12 90 yX12_in v_X12_in) := goodIn_app (goodIn_of _ (by decide +kernel)) (gi cm_X12_isPerson_v1_1 gd_X12_in)
set_option maxHeartbeats 4000000 in
set_option maxRecDepth 100000 in
theorem c_X12_isPerson_v1 (l : Launch) (G : va_G) (cI cJ cZ cD cR cT : ClassId) (h0 : Nat) (n1 : Int32) (h0_2 : Nat) (h0_3 : Nat) (h0_4 : Nat) (h0_5 : Nat) (h0_9 : Nat) (h0_10 : Nat) (h0_11 : Nat) (h0_20 : Nat) (h0_22 : Nat) (h0_23 : Nat) (h0_25 : Nat) (h0_26 : Nat) (h0_29 : Nat) (h0_30 : Nat) (h0_31 : Nat) (h0_32 : Nat) (h0_39 : Nat) (h0_40 : Nat) (h0_42 : Nat) (h0_44 : Nat) (h0_45 : Nat) (sz : Nat) : Met l yX12_isPerson v_X12_isPerson_v1 ({ frames := 2, cells := 0, slots := 0, locals := 65 }) (va_Pc [.ref h0, .int n1] (PreW G (tys6 cI cJ cZ cD cR cT) [(h0, .inr (12, [.int 0, .int 0, .ref h0_2, .ref h0_3, .ref h0_4, .ref h0_5, .int 0, .int 0, .int 0, .ref h0_9, .ref h0_10, .ref h0_11, .int 0, .int 0, .int 0, .int 0, .long 0, .int (-1), .int 0, .int 0, .ref h0_20, .int 0, .ref h0_22, .ref h0_23, .int 0, .ref h0_25, .ref h0_26, .int 0, .int 0, .ref h0_29, .ref h0_30, .ref h0_31, .ref h0_32, .int 0, .long 0, .long 0, .long 0, .long 0, .int 0, .ref h0_39, .ref h0_40, .int 0, .ref h0_42, .int 0, .ref h0_44, .ref h0_45, .int 0, .int 0, .int 0, .int 0, .int 0, .int 0])), (h0_2, .inl (cI, 35942, .inl mrow))] sz)) (QW (RI (fun r => r = 0)) G (va_A [(h0, .inr (12, [.int 0, .int 0, .ref h0_2, .ref h0_3, .ref h0_4, .ref h0_5, .int 0, .int 0, .int 0, .ref h0_9, .ref h0_10, .ref h0_11, .int 0, .int 0, .int 0, .int 0, .long 0, .int (-1), .int 0, .int 0, .ref h0_20, .int 0, .ref h0_22, .ref h0_23, .int 0, .ref h0_25, .ref h0_26, .int 0, .int 0, .ref h0_29, .ref h0_30, .ref h0_31, .ref h0_32, .int 0, .long 0, .long 0, .long 0, .long 0, .int 0, .ref h0_39, .ref h0_40, .int 0, .ref h0_42, .int 0, .ref h0_44, .ref h0_45, .int 0, .int 0, .int 0, .int 0, .int 0, .int 0])), (h0_2, .inl (cI, 35942, .inl mrow))] sz) (fun q g => [(h0, .inr (12, [.int 0, .int 0, .ref h0_2, .ref h0_3, .ref h0_4, .ref h0_5, .int 0, .int 0, .int 0, .ref h0_9, .ref h0_10, .ref h0_11, .int 0, .int 0, .int 0, .int 0, .long 0, .int (-1), .int 0, .int 0, .ref h0_20, .int 0, .ref h0_22, .ref h0_23, .int 0, .ref h0_25, .ref h0_26, .int 0, .int 0, .ref h0_29, .ref h0_30, .ref h0_31, .ref h0_32, .int 0, .long 0, .long 0, .long 0, .long 0, .int 0, .ref h0_39, .ref h0_40, .int 0, .ref h0_42, .int 0, .ref h0_44, .ref h0_45, .int 0, .int 0, .int 0, .int 0, .int 0, .int 0])), (h0_2, .inl (cI, 35942, .inl mrow))])) 0 0 (va_A [(h0, .inr (12, [.int 0, .int 0, .ref h0_2, .ref h0_3, .ref h0_4, .ref h0_5, .int 0, .int 0, .int 0, .ref h0_9, .ref h0_10, .ref h0_11, .int 0, .int 0, .int 0, .int 0, .long 0, .int (-1), .int 0, .int 0, .ref h0_20, .int 0, .ref h0_22, .ref h0_23, .int 0, .ref h0_25, .ref h0_26, .int 0, .int 0, .ref h0_29, .ref h0_30, .ref h0_31, .ref h0_32, .int 0, .long 0, .long 0, .long 0, .long 0, .int 0, .ref h0_39, .ref h0_40, .int 0, .ref h0_42, .int 0, .ref h0_44, .ref h0_45, .int 0, .int 0, .int 0, .int 0, .int 0, .int 0])), (h0_2, .inl (cI, 35942, .inl mrow))] sz) := by
  refine metW (cc := cX12_isPerson) (maxL := 2) (ret := (some .boolean)) (by decide) rfl (Nat.le_of_ble_eq_true rfl) ?_
  intro p e s m below meth c A ls hx hb hr hml hown hts hlocks hin hKK hP hD hA hS hl
  have hK := hKK.1
  have hown : s.vm.findClass RX12 = some m.cls := hown
  have hl : lv_has ls 2 [(0, .ref h0), (1, .int n1)] := hl
  have hP : va_P G vwCl [(h0, .inr (12, [.int 0, .int 0, .ref h0_2, .ref h0_3, .ref h0_4, .ref h0_5, .int 0, .int 0, .int 0, .ref h0_9, .ref h0_10, .ref h0_11, .int 0, .int 0, .int 0, .int 0, .long 0, .int (-1), .int 0, .int 0, .ref h0_20, .int 0, .ref h0_22, .ref h0_23, .int 0, .ref h0_25, .ref h0_26, .int 0, .int 0, .ref h0_29, .ref h0_30, .ref h0_31, .ref h0_32, .int 0, .long 0, .long 0, .long 0, .long 0, .int 0, .ref h0_39, .ref h0_40, .int 0, .ref h0_42, .int 0, .ref h0_44, .ref h0_45, .int 0, .int 0, .int 0, .int 0, .int 0, .int 0])), (h0_2, .inl (cI, 35942, .inl mrow))] s.heap := hP
  have hD : va_D A [(h0, .inr (12, [.int 0, .int 0, .ref h0_2, .ref h0_3, .ref h0_4, .ref h0_5, .int 0, .int 0, .int 0, .ref h0_9, .ref h0_10, .ref h0_11, .int 0, .int 0, .int 0, .int 0, .long 0, .int (-1), .int 0, .int 0, .ref h0_20, .int 0, .ref h0_22, .ref h0_23, .int 0, .ref h0_25, .ref h0_26, .int 0, .int 0, .ref h0_29, .ref h0_30, .ref h0_31, .ref h0_32, .int 0, .long 0, .long 0, .long 0, .long 0, .int 0, .ref h0_39, .ref h0_40, .int 0, .ref h0_42, .int 0, .ref h0_44, .ref h0_45, .int 0, .int 0, .int 0, .int 0, .int 0, .int 0])), (h0_2, .inl (cI, 35942, .inl mrow))] := hD
  refine lv_iload_n hx hb dX12_isPerson_0 rfl (lv_at hl 1 rfl) ?_
  refine lv_i2l hx hb dX12_isPerson_1 rfl ?_
  refine lv_lconst (v := 0) hx hb dX12_isPerson_2 (by decide) ?_
  refine lv_aload_n hx hb dX12_isPerson_3 rfl (lv_at hl 0 rfl) ?_
  refine va_get (D := G) (ci := 12) (v := .ref h0_2) (C := RX12) (T := TX12) (N := 52) hx hb hts cm_X12_isPerson_v1_0 hown hK hP 0 rfl rfl 2 (by decide) (hts _ (dmem (j := 0) rfl)) (fun _ h9 => h9) rfl dX12_isPerson_4 ?_
  refine lv_iconst (v := 0) hx hb dX12_isPerson_7 (by decide) ?_
  refine va_iald hx hb hK hP 1 0 rfl rfl (vp_in_iff.mpr (by decide)) dX12_isPerson_8 ?_
  refine lv_topi (fun x1 ex1 => ?_)
  obtain rfl : 0 = x1 := (ex1.trans (by first | rfl | decide | (simp [upd, mrow]; done))).symm
  refine lv_i2l (v := 0) hx hb dX12_isPerson_9 (by decide) ?_
  refine lv_lconst (v := 1) hx hb dX12_isPerson_10 (by decide) ?_
  refine lv_lsub hx hb dX12_isPerson_11 ?_
  refine lv_topl (fun x2 ex2 => ?_)
  obtain rfl : (-1) = x2 := (ex2.trans (by decide)).symm
  refine goS (As := [.long (n1).toInt64, .long 0, .long (-1)]) (rest := []) (wr := [(h0, .inr (12, [.int 0, .int 0, .ref h0_2, .ref h0_3, .ref h0_4, .ref h0_5, .int 0, .int 0, .int 0, .ref h0_9, .ref h0_10, .ref h0_11, .int 0, .int 0, .int 0, .int 0, .long 0, .int (-1), .int 0, .int 0, .ref h0_20, .int 0, .ref h0_22, .ref h0_23, .int 0, .ref h0_25, .ref h0_26, .int 0, .int 0, .ref h0_29, .ref h0_30, .ref h0_31, .ref h0_32, .int 0, .long 0, .long 0, .long 0, .long 0, .int 0, .ref h0_39, .ref h0_40, .int 0, .ref h0_42, .int 0, .ref h0_44, .ref h0_45, .int 0, .int 0, .int 0, .int 0, .int 0, .int 0])), (h0_2, .inl (cI, 35942, .inl mrow))]) ⟨hx, hb, hml, hown, hts⟩ (c_X12_in l G cI cJ cZ cD cR cT (n1).toInt64 0 (-1) n1.toInt 0 (-1) _ (Int32.toInt_toInt64 n1) (by decide) (by decide)) (va_cwS 3 hts gv_X12_isPerson_v1_90_X12_in rfl rfl rfl (by decide +kernel) ⟨Nat.le_of_ble_eq_true rfl, Nat.le_of_ble_eq_true rfl⟩) hKK hP hD hS hA [] [0, 1] rfl rfl (by decide +kernel) (by decide +kernel) (by decide +kernel) rfl hl.1 rfl (lv_room (Nat.le_of_ble_eq_true rfl)) dX12_isPerson_12 ⟨Nat.le_of_ble_eq_true rfl, Nat.le_of_ble_eq_true rfl⟩ (fun v4 q3 gq3 H locs hv4 => appW (ws' := [(h0, .inr (12, [.int 0, .int 0, .ref h0_2, .ref h0_3, .ref h0_4, .ref h0_5, .int 0, .int 0, .int 0, .ref h0_9, .ref h0_10, .ref h0_11, .int 0, .int 0, .int 0, .int 0, .long 0, .int (-1), .int 0, .int 0, .ref h0_20, .int 0, .ref h0_22, .ref h0_23, .int 0, .ref h0_25, .ref h0_26, .int 0, .int 0, .ref h0_29, .ref h0_30, .ref h0_31, .ref h0_32, .int 0, .long 0, .long 0, .long 0, .long 0, .int 0, .ref h0_39, .ref h0_40, .int 0, .ref h0_42, .int 0, .ref h0_44, .ref h0_45, .int 0, .int 0, .int 0, .int 0, .int 0, .int 0])), (h0_2, .inl (cI, 35942, .inl mrow))]) rfl (fun hP hD hS => ?_))
  obtain ⟨_, rfl, h6⟩ := hv4
  rcases h6 with ⟨rfl, h6⟩ | ⟨rfl, h6⟩
  · exfalso; omega
  · exact retZ hx hb hr hlocks (by decide) ⟨_, rfl, rfl⟩ hP hD hS (fun _ => 0) (fun _ _ => 0) [0, 1] (by decide +kernel) rfl dX12_isPerson_15
def d_X12_told_v3 : List Cond := [Cond.fieldLink RX12 85 "NoRentModel" "status" "I"]
def v_X12_told_v3 : List Cond := Cond.code yX12_told cX12_told 2 (some .int) :: (d_X12_told_v3 ++ (wsX120 ++ ([] : List Cond)))
theorem cm_X12_told_v3_0 : ∀ w ∈ wsX120, w ∈ v_X12_told_v3 := fun _ h => List.mem_cons_of_mem _ (List.mem_append_right _ (List.mem_append_left _ h))
theorem gd_X12_told_v3 : Gd v_X12_told_v3 := gd_mk (by decide +kernel) (gd_app gd_X12 gd_nil)
set_option maxHeartbeats 4000000 in
set_option maxRecDepth 100000 in
theorem c_X12_told_v3 (l : Launch) (G : va_G) (cI cJ cZ cD cR cT : ClassId) (h0 : Nat) (h0_2 : Nat) (h0_3 : Nat) (h0_4 : Nat) (h0_5 : Nat) (h0_9 : Nat) (h0_10 : Nat) (h0_11 : Nat) (h0_20 : Nat) (h0_22 : Nat) (h0_23 : Nat) (h0_25 : Nat) (h0_26 : Nat) (h0_29 : Nat) (h0_30 : Nat) (h0_31 : Nat) (h0_32 : Nat) (h0_39 : Nat) (h0_40 : Nat) (h0_42 : Nat) (h0_44 : Nat) (h0_45 : Nat) (sz : Nat) : Met l yX12_told v_X12_told_v3 ({ frames := 1, cells := 0, slots := 0, locals := 40 }) (va_Pc [.ref h0, .int (-2)] (PreW G (tys6 cI cJ cZ cD cR cT) [(h0, .inr (12, [.int 0, .int 0, .ref h0_2, .ref h0_3, .ref h0_4, .ref h0_5, .int 0, .int 0, .int 0, .ref h0_9, .ref h0_10, .ref h0_11, .int 0, .int 0, .int 0, .int 0, .long 0, .int (-1), .int 0, .int 0, .ref h0_20, .int 0, .ref h0_22, .ref h0_23, .int 0, .ref h0_25, .ref h0_26, .int 0, .int 0, .ref h0_29, .ref h0_30, .ref h0_31, .ref h0_32, .int 0, .long 0, .long 0, .long 0, .long 0, .int 0, .ref h0_39, .ref h0_40, .int 0, .ref h0_42, .int 0, .ref h0_44, .ref h0_45, .int 0, .int 0, .int 0, .int 0, .int 0, .int 0]))] sz)) (QW (RI (fun r => r = (-2))) G (va_A [(h0, .inr (12, [.int 0, .int 0, .ref h0_2, .ref h0_3, .ref h0_4, .ref h0_5, .int 0, .int 0, .int 0, .ref h0_9, .ref h0_10, .ref h0_11, .int 0, .int 0, .int 0, .int 0, .long 0, .int (-1), .int 0, .int 0, .ref h0_20, .int 0, .ref h0_22, .ref h0_23, .int 0, .ref h0_25, .ref h0_26, .int 0, .int 0, .ref h0_29, .ref h0_30, .ref h0_31, .ref h0_32, .int 0, .long 0, .long 0, .long 0, .long 0, .int 0, .ref h0_39, .ref h0_40, .int 0, .ref h0_42, .int 0, .ref h0_44, .ref h0_45, .int 0, .int 0, .int 0, .int 0, .int 0, .int 0]))] sz) (fun q g => [(h0, .inr (12, [.int 0, .int (-2), .ref h0_2, .ref h0_3, .ref h0_4, .ref h0_5, .int 0, .int 0, .int 0, .ref h0_9, .ref h0_10, .ref h0_11, .int 0, .int 0, .int 0, .int 0, .long 0, .int (-1), .int 0, .int 0, .ref h0_20, .int 0, .ref h0_22, .ref h0_23, .int 0, .ref h0_25, .ref h0_26, .int 0, .int 0, .ref h0_29, .ref h0_30, .ref h0_31, .ref h0_32, .int 0, .long 0, .long 0, .long 0, .long 0, .int 0, .ref h0_39, .ref h0_40, .int 0, .ref h0_42, .int 0, .ref h0_44, .ref h0_45, .int 0, .int 0, .int 0, .int 0, .int 0, .int 0]))])) 0 0 (va_A [(h0, .inr (12, [.int 0, .int 0, .ref h0_2, .ref h0_3, .ref h0_4, .ref h0_5, .int 0, .int 0, .int 0, .ref h0_9, .ref h0_10, .ref h0_11, .int 0, .int 0, .int 0, .int 0, .long 0, .int (-1), .int 0, .int 0, .ref h0_20, .int 0, .ref h0_22, .ref h0_23, .int 0, .ref h0_25, .ref h0_26, .int 0, .int 0, .ref h0_29, .ref h0_30, .ref h0_31, .ref h0_32, .int 0, .long 0, .long 0, .long 0, .long 0, .int 0, .ref h0_39, .ref h0_40, .int 0, .ref h0_42, .int 0, .ref h0_44, .ref h0_45, .int 0, .int 0, .int 0, .int 0, .int 0, .int 0]))] sz) := by
  refine metW (cc := cX12_told) (maxL := 2) (ret := (some .int)) (by decide) rfl (Nat.le_of_ble_eq_true rfl) ?_
  intro p e s m below meth c A ls hx hb hr hml hown hts hlocks hin hKK hP hD hA hS hl
  have hK := hKK.1
  have hown : s.vm.findClass RX12 = some m.cls := hown
  have hl : lv_has ls 2 [(0, .ref h0), (1, .int (-2))] := hl
  have hP : va_P G vwCl [(h0, .inr (12, [.int 0, .int 0, .ref h0_2, .ref h0_3, .ref h0_4, .ref h0_5, .int 0, .int 0, .int 0, .ref h0_9, .ref h0_10, .ref h0_11, .int 0, .int 0, .int 0, .int 0, .long 0, .int (-1), .int 0, .int 0, .ref h0_20, .int 0, .ref h0_22, .ref h0_23, .int 0, .ref h0_25, .ref h0_26, .int 0, .int 0, .ref h0_29, .ref h0_30, .ref h0_31, .ref h0_32, .int 0, .long 0, .long 0, .long 0, .long 0, .int 0, .ref h0_39, .ref h0_40, .int 0, .ref h0_42, .int 0, .ref h0_44, .ref h0_45, .int 0, .int 0, .int 0, .int 0, .int 0, .int 0]))] s.heap := hP
  have hD : va_D A [(h0, .inr (12, [.int 0, .int 0, .ref h0_2, .ref h0_3, .ref h0_4, .ref h0_5, .int 0, .int 0, .int 0, .ref h0_9, .ref h0_10, .ref h0_11, .int 0, .int 0, .int 0, .int 0, .long 0, .int (-1), .int 0, .int 0, .ref h0_20, .int 0, .ref h0_22, .ref h0_23, .int 0, .ref h0_25, .ref h0_26, .int 0, .int 0, .ref h0_29, .ref h0_30, .ref h0_31, .ref h0_32, .int 0, .long 0, .long 0, .long 0, .long 0, .int 0, .ref h0_39, .ref h0_40, .int 0, .ref h0_42, .int 0, .ref h0_44, .ref h0_45, .int 0, .int 0, .int 0, .int 0, .int 0, .int 0]))] := hD
  refine lv_aload_n hx hb dX12_told_0 rfl (lv_at hl 0 rfl) ?_
  refine lv_iload_n hx hb dX12_told_1 rfl (lv_at hl 1 rfl) ?_
  refine lv_if_ge (tgt := 9) hx hb dX12_told_2 (by decide) (fun c => absurd c (by decide)) (fun _ => ?_)
  refine lv_iload_n hx hb dX12_told_5 rfl (lv_at hl 1 rfl) ?_
  refine lv_goto (tgt := 10) hx hb dX12_told_6 (by decide) ?_
  refine va_put (D := G) (ci := 12) (v := .int (-2)) (ty := .int) (C := RX12) (T := TX12) (N := 52) hx hb hts cm_X12_told_v3_0 tyX12 tyX12_ok nmX12 hown hK hP hD hS 0 rfl rfl 1 (by decide) (hts _ (dmem (j := 0) rfl)) (fun _ h9 => h9) rfl (by decide +kernel) rfl rfl (Nat.le_of_ble_eq_true rfl) dX12_told_10 (fun H locs => setW (ws' := [(h0, .inr (12, [.int 0, .int (-2), .ref h0_2, .ref h0_3, .ref h0_4, .ref h0_5, .int 0, .int 0, .int 0, .ref h0_9, .ref h0_10, .ref h0_11, .int 0, .int 0, .int 0, .int 0, .long 0, .int (-1), .int 0, .int 0, .ref h0_20, .int 0, .ref h0_22, .ref h0_23, .int 0, .ref h0_25, .ref h0_26, .int 0, .int 0, .ref h0_29, .ref h0_30, .ref h0_31, .ref h0_32, .int 0, .long 0, .long 0, .long 0, .long 0, .int 0, .ref h0_39, .ref h0_40, .int 0, .ref h0_42, .int 0, .ref h0_44, .ref h0_45, .int 0, .int 0, .int 0, .int 0, .int 0, .int 0]))]) rfl (fun hP hD hS => ?_))
  refine lv_iload_n hx hb dX12_told_13 rfl (lv_at hl 1 rfl) ?_
  exact retI hx hb hr hlocks ⟨_, rfl, rfl⟩ hP hD hS (fun _ => 0) (fun _ _ => 0) [0] (by decide +kernel) rfl dX12_told_14
def d_X12_heed : List Cond := [Cond.fieldLink RX12 82 "NoRentModel" "thrown" "I", Cond.methodLink RX12 111 yX12_isPerson, Cond.instanceMethod yX12_isPerson, Cond.selects RX12 yX12_isPerson yX12_isPerson, Cond.initialized RX12, Cond.methodLink RX12 94 yX12_told, Cond.instanceMethod yX12_told, Cond.selects RX12 yX12_told yX12_told]
def v_X12_heed : List Cond := Cond.code yX12_heed cX12_heed 3 (some .int) :: (d_X12_heed ++ (wsX120 ++ (v_X12_isPerson_v1 ++ (v_X12_told_v3 ++ ([] : List Cond)))))
theorem cm_X12_heed_0 : ∀ w ∈ wsX120, w ∈ v_X12_heed := fun _ h => List.mem_cons_of_mem _ (List.mem_append_right _ (List.mem_append_left _ h))
theorem cm_X12_heed_1 : ∀ w ∈ v_X12_isPerson_v1, w ∈ v_X12_heed := fun _ h => List.mem_cons_of_mem _ (List.mem_append_right _ (List.mem_append_right _ (List.mem_append_left _ h)))
theorem cm_X12_heed_2 : ∀ w ∈ v_X12_told_v3, w ∈ v_X12_heed := fun _ h => List.mem_cons_of_mem _ (List.mem_append_right _ (List.mem_append_right _ (List.mem_append_right _ (List.mem_append_left _ h))))
theorem gd_X12_heed : Gd v_X12_heed := gd_mk (by decide +kernel) (gd_app gd_X12 (gd_app gd_X12_isPerson_v1 (gd_app gd_X12_told_v3 gd_nil)))
set_option maxRecDepth 20000 in
theorem gv_X12_heed_111_X12_isPerson_v1 : GoodIn v_X12_heed (wsV RX12 111 RX12 yX12_isPerson v_X12_isPerson_v1) := goodIn_app (goodIn_of _ (by decide +kernel)) (gi cm_X12_heed_1 gd_X12_isPerson_v1)
set_option maxRecDepth 20000 in
theorem gv_X12_heed_94_X12_told_v3 : GoodIn v_X12_heed (wsV RX12 94 RX12 yX12_told v_X12_told_v3) := goodIn_app (goodIn_of _ (by decide +kernel)) (gi cm_X12_heed_2 gd_X12_told_v3)
set_option maxHeartbeats 4000000 in
set_option maxRecDepth 100000 in
theorem c_X12_heed (l : Launch) (G : va_G) (cI cJ cZ cD cR cT : ClassId) (h0 : Nat) (u1 : Int32) (u2 : Int32) (h0_2 : Nat) (h0_3 : Nat) (h0_4 : Nat) (h0_5 : Nat) (h0_9 : Nat) (h0_10 : Nat) (h0_11 : Nat) (h0_20 : Nat) (h0_22 : Nat) (h0_23 : Nat) (h0_25 : Nat) (h0_26 : Nat) (h0_29 : Nat) (h0_30 : Nat) (h0_31 : Nat) (h0_32 : Nat) (h0_39 : Nat) (h0_40 : Nat) (h0_42 : Nat) (h0_44 : Nat) (h0_45 : Nat) (sz : Nat) : Met l yX12_heed v_X12_heed ({ frames := 3, cells := 0, slots := 0, locals := 86 }) (va_Pc [.ref h0, .int u1, .int u2] (PreW G (tys6 cI cJ cZ cD cR cT) [(h0, .inr (12, [.int 0, .int 0, .ref h0_2, .ref h0_3, .ref h0_4, .ref h0_5, .int 0, .int 0, .int 0, .ref h0_9, .ref h0_10, .ref h0_11, .int 0, .int 0, .int 0, .int 0, .long 0, .int (-1), .int 0, .int 0, .ref h0_20, .int 0, .ref h0_22, .ref h0_23, .int 0, .ref h0_25, .ref h0_26, .int 0, .int 0, .ref h0_29, .ref h0_30, .ref h0_31, .ref h0_32, .int 0, .long 0, .long 0, .long 0, .long 0, .int 0, .ref h0_39, .ref h0_40, .int 0, .ref h0_42, .int 0, .ref h0_44, .ref h0_45, .int 0, .int 0, .int 0, .int 0, .int 0, .int 0])), (h0_2, .inl (cI, 35942, .inl mrow))] sz)) (QW (RI (fun r => r = F_heed u1 u2)) G (va_A [(h0, .inr (12, [.int 0, .int 0, .ref h0_2, .ref h0_3, .ref h0_4, .ref h0_5, .int 0, .int 0, .int 0, .ref h0_9, .ref h0_10, .ref h0_11, .int 0, .int 0, .int 0, .int 0, .long 0, .int (-1), .int 0, .int 0, .ref h0_20, .int 0, .ref h0_22, .ref h0_23, .int 0, .ref h0_25, .ref h0_26, .int 0, .int 0, .ref h0_29, .ref h0_30, .ref h0_31, .ref h0_32, .int 0, .long 0, .long 0, .long 0, .long 0, .int 0, .ref h0_39, .ref h0_40, .int 0, .ref h0_42, .int 0, .ref h0_44, .ref h0_45, .int 0, .int 0, .int 0, .int 0, .int 0, .int 0])), (h0_2, .inl (cI, 35942, .inl mrow))] sz) (fun q g => [])) 0 0 (va_A [(h0, .inr (12, [.int 0, .int 0, .ref h0_2, .ref h0_3, .ref h0_4, .ref h0_5, .int 0, .int 0, .int 0, .ref h0_9, .ref h0_10, .ref h0_11, .int 0, .int 0, .int 0, .int 0, .long 0, .int (-1), .int 0, .int 0, .ref h0_20, .int 0, .ref h0_22, .ref h0_23, .int 0, .ref h0_25, .ref h0_26, .int 0, .int 0, .ref h0_29, .ref h0_30, .ref h0_31, .ref h0_32, .int 0, .long 0, .long 0, .long 0, .long 0, .int 0, .ref h0_39, .ref h0_40, .int 0, .ref h0_42, .int 0, .ref h0_44, .ref h0_45, .int 0, .int 0, .int 0, .int 0, .int 0, .int 0])), (h0_2, .inl (cI, 35942, .inl mrow))] sz) := by
  refine metW (cc := cX12_heed) (maxL := 3) (ret := (some .int)) (by decide) rfl (Nat.le_of_ble_eq_true rfl) ?_
  intro p e s m below meth c A ls hx hb hr hml hown hts hlocks hin hKK hP hD hA hS hl
  have hK := hKK.1
  have hown : s.vm.findClass RX12 = some m.cls := hown
  have hl : lv_has ls 3 [(0, .ref h0), (1, .int u1), (2, .int u2)] := hl
  have hP : va_P G vwCl [(h0, .inr (12, [.int 0, .int 0, .ref h0_2, .ref h0_3, .ref h0_4, .ref h0_5, .int 0, .int 0, .int 0, .ref h0_9, .ref h0_10, .ref h0_11, .int 0, .int 0, .int 0, .int 0, .long 0, .int (-1), .int 0, .int 0, .ref h0_20, .int 0, .ref h0_22, .ref h0_23, .int 0, .ref h0_25, .ref h0_26, .int 0, .int 0, .ref h0_29, .ref h0_30, .ref h0_31, .ref h0_32, .int 0, .long 0, .long 0, .long 0, .long 0, .int 0, .ref h0_39, .ref h0_40, .int 0, .ref h0_42, .int 0, .ref h0_44, .ref h0_45, .int 0, .int 0, .int 0, .int 0, .int 0, .int 0])), (h0_2, .inl (cI, 35942, .inl mrow))] s.heap := hP
  have hD : va_D A [(h0, .inr (12, [.int 0, .int 0, .ref h0_2, .ref h0_3, .ref h0_4, .ref h0_5, .int 0, .int 0, .int 0, .ref h0_9, .ref h0_10, .ref h0_11, .int 0, .int 0, .int 0, .int 0, .long 0, .int (-1), .int 0, .int 0, .ref h0_20, .int 0, .ref h0_22, .ref h0_23, .int 0, .ref h0_25, .ref h0_26, .int 0, .int 0, .ref h0_29, .ref h0_30, .ref h0_31, .ref h0_32, .int 0, .long 0, .long 0, .long 0, .long 0, .int 0, .ref h0_39, .ref h0_40, .int 0, .ref h0_42, .int 0, .ref h0_44, .ref h0_45, .int 0, .int 0, .int 0, .int 0, .int 0, .int 0])), (h0_2, .inl (cI, 35942, .inl mrow))] := hD
  refine lv_aload_n hx hb dX12_heed_0 rfl (lv_at hl 0 rfl) ?_
  refine lv_iconst (v := 0) hx hb dX12_heed_1 (by decide) ?_
  refine va_put (D := G) (ci := 12) (v := .int 0) (ty := .int) (C := RX12) (T := TX12) (N := 52) hx hb hts cm_X12_heed_0 tyX12 tyX12_ok nmX12 hown hK hP hD hS 0 rfl rfl 0 (by decide) (hts _ (dmem (j := 0) rfl)) (fun _ h9 => h9) rfl (by decide +kernel) rfl rfl (Nat.le_of_ble_eq_true rfl) dX12_heed_2 (fun H locs => setW (ws' := [(h0, .inr (12, [.int 0, .int 0, .ref h0_2, .ref h0_3, .ref h0_4, .ref h0_5, .int 0, .int 0, .int 0, .ref h0_9, .ref h0_10, .ref h0_11, .int 0, .int 0, .int 0, .int 0, .long 0, .int (-1), .int 0, .int 0, .ref h0_20, .int 0, .ref h0_22, .ref h0_23, .int 0, .ref h0_25, .ref h0_26, .int 0, .int 0, .ref h0_29, .ref h0_30, .ref h0_31, .ref h0_32, .int 0, .long 0, .long 0, .long 0, .long 0, .int 0, .ref h0_39, .ref h0_40, .int 0, .ref h0_42, .int 0, .ref h0_44, .ref h0_45, .int 0, .int 0, .int 0, .int 0, .int 0, .int 0])), (h0_2, .inl (cI, 35942, .inl mrow))]) rfl (fun hP hD hS => ?_))
  refine lv_aload_n hx hb dX12_heed_5 rfl (lv_at hl 0 rfl) ?_
  refine lv_iload_n hx hb dX12_heed_6 rfl (lv_at hl 1 rfl) ?_
  refine goV (As := [.int u1]) (rest := []) (wr := []) ⟨hx, hb, hml, hown, hts⟩ (c_X12_isPerson_v1 l G cI cJ cZ cD cR cT h0 u1 h0_2 h0_3 h0_4 h0_5 h0_9 h0_10 h0_11 h0_20 h0_22 h0_23 h0_25 h0_26 h0_29 h0_30 h0_31 h0_32 h0_39 h0_40 h0_42 h0_44 h0_45 _) (cwV 1 hts gv_X12_heed_111_X12_isPerson_v1 rfl rfl rfl (by decide +kernel) ⟨Nat.le_of_ble_eq_true rfl, Nat.le_of_ble_eq_true rfl⟩) 0 rfl rfl rfl hKK hP hD hS hA [0, 1] [] rfl rfl (by decide +kernel) (by decide +kernel) (by decide +kernel) rfl hl.1 rfl (lv_room (Nat.le_of_ble_eq_true rfl)) dX12_heed_7 ⟨Nat.le_of_ble_eq_true rfl, Nat.le_of_ble_eq_true rfl⟩ (fun v2 q1 gq1 H locs hv2 => appW (ws' := [(h0, .inr (12, [.int 0, .int 0, .ref h0_2, .ref h0_3, .ref h0_4, .ref h0_5, .int 0, .int 0, .int 0, .ref h0_9, .ref h0_10, .ref h0_11, .int 0, .int 0, .int 0, .int 0, .long 0, .int (-1), .int 0, .int 0, .ref h0_20, .int 0, .ref h0_22, .ref h0_23, .int 0, .ref h0_25, .ref h0_26, .int 0, .int 0, .ref h0_29, .ref h0_30, .ref h0_31, .ref h0_32, .int 0, .long 0, .long 0, .long 0, .long 0, .int 0, .ref h0_39, .ref h0_40, .int 0, .ref h0_42, .int 0, .ref h0_44, .ref h0_45, .int 0, .int 0, .int 0, .int 0, .int 0, .int 0])), (h0_2, .inl (cI, 35942, .inl mrow))]) rfl (fun hP hD hS => ?_))
  obtain ⟨_, rfl, rfl⟩ := hv2
  refine lv_if_eq (tgt := 26) hx hb dX12_heed_10 (by decide) (fun _ => ?_) (fun c => absurd c (by decide))
  refine lv_aload_n hx hb dX12_heed_26 rfl (lv_at hl 0 rfl) ?_
  refine lv_bipush (v := (-2)) hx hb dX12_heed_27 (by decide) ?_
  refine goV (As := [.int (-2)]) (rest := []) (wr := [(h0_2, .inl (cI, 35942, .inl mrow))]) ⟨hx, hb, hml, hown, hts⟩ (c_X12_told_v3 l G cI cJ cZ cD cR cT h0 h0_2 h0_3 h0_4 h0_5 h0_9 h0_10 h0_11 h0_20 h0_22 h0_23 h0_25 h0_26 h0_29 h0_30 h0_31 h0_32 h0_39 h0_40 h0_42 h0_44 h0_45 _) (cwV 1 hts gv_X12_heed_94_X12_told_v3 rfl rfl rfl (by decide +kernel) ⟨Nat.le_of_ble_eq_true rfl, Nat.le_of_ble_eq_true rfl⟩) 0 rfl rfl rfl hKK hP hD hS hA [0] [1] rfl rfl (by decide +kernel) (by decide +kernel) (by decide +kernel) rfl hl.1 rfl (lv_room (Nat.le_of_ble_eq_true rfl)) dX12_heed_29 ⟨Nat.le_of_ble_eq_true rfl, Nat.le_of_ble_eq_true rfl⟩ (fun v5 q4 gq4 H locs hv5 => appW (ws' := [(h0_2, .inl (cI, 35942, .inl mrow)), (h0, .inr (12, [.int 0, .int (-2), .ref h0_2, .ref h0_3, .ref h0_4, .ref h0_5, .int 0, .int 0, .int 0, .ref h0_9, .ref h0_10, .ref h0_11, .int 0, .int 0, .int 0, .int 0, .long 0, .int (-1), .int 0, .int 0, .ref h0_20, .int 0, .ref h0_22, .ref h0_23, .int 0, .ref h0_25, .ref h0_26, .int 0, .int 0, .ref h0_29, .ref h0_30, .ref h0_31, .ref h0_32, .int 0, .long 0, .long 0, .long 0, .long 0, .int 0, .ref h0_39, .ref h0_40, .int 0, .ref h0_42, .int 0, .ref h0_44, .ref h0_45, .int 0, .int 0, .int 0, .int 0, .int 0, .int 0]))]) rfl (fun hP hD hS => ?_))
  obtain ⟨_, rfl, rfl⟩ := hv5
  exact retI hx hb hr hlocks ⟨_, rfl, by have hz0 : (0 : Int32).toInt = 0 := rfl; have hz1 : (1 : Int32).toInt = 1 := rfl; unfold F_heed; (repeat' split) <;> first | rfl | (exfalso; omega)⟩ hP hD hS (fun _ => 0) (fun _ _ => 0) [] (by decide +kernel) rfl dX12_heed_32
def d_X12_goes : List Cond := [Cond.fieldLink RX12 82 "NoRentModel" "thrown" "I", Cond.constantLong RX12 115 (4), Cond.methodLink RX12 90 yX12_in, Cond.static yX12_in, Cond.initialized RX12, Cond.methodLink RX12 111 yX12_isPerson, Cond.instanceMethod yX12_isPerson, Cond.selects RX12 yX12_isPerson yX12_isPerson, Cond.methodLink RX12 94 yX12_told, Cond.instanceMethod yX12_told, Cond.selects RX12 yX12_told yX12_told]
def v_X12_goes : List Cond := Cond.code yX12_goes cX12_goes 3 (some .int) :: (d_X12_goes ++ (wsX120 ++ (v_X12_in ++ (v_X12_isPerson_v1 ++ (v_X12_told_v3 ++ (v_X12_told_v2 ++ ([] : List Cond)))))))
theorem cm_X12_goes_0 : ∀ w ∈ wsX120, w ∈ v_X12_goes := fun _ h => List.mem_cons_of_mem _ (List.mem_append_right _ (List.mem_append_left _ h))
theorem cm_X12_goes_1 : ∀ w ∈ v_X12_in, w ∈ v_X12_goes := fun _ h => List.mem_cons_of_mem _ (List.mem_append_right _ (List.mem_append_right _ (List.mem_append_left _ h)))
theorem cm_X12_goes_2 : ∀ w ∈ v_X12_isPerson_v1, w ∈ v_X12_goes := fun _ h => List.mem_cons_of_mem _ (List.mem_append_right _ (List.mem_append_right _ (List.mem_append_right _ (List.mem_append_left _ h))))
theorem cm_X12_goes_3 : ∀ w ∈ v_X12_told_v3, w ∈ v_X12_goes := fun _ h => List.mem_cons_of_mem _ (List.mem_append_right _ (List.mem_append_right _ (List.mem_append_right _ (List.mem_append_right _ (List.mem_append_left _ h)))))
theorem cm_X12_goes_4 : ∀ w ∈ v_X12_told_v2, w ∈ v_X12_goes := fun _ h => List.mem_cons_of_mem _ (List.mem_append_right _ (List.mem_append_right _ (List.mem_append_right _ (List.mem_append_right _ (List.mem_append_right _ (List.mem_append_left _ h))))))
theorem gd_X12_goes : Gd v_X12_goes := gd_mk (by decide +kernel) (gd_app gd_X12 (gd_app gd_X12_in (gd_app gd_X12_isPerson_v1 (gd_app gd_X12_told_v3 (gd_app gd_X12_told_v2 gd_nil)))))
set_option maxRecDepth 20000 in
theorem gv_X12_goes_90_X12_in : GoodIn v_X12_goes (va_wsS RX12 90 yX12_in v_X12_in) := goodIn_app (goodIn_of _ (by decide +kernel)) (gi cm_X12_goes_1 gd_X12_in)
set_option maxRecDepth 20000 in
theorem gv_X12_goes_111_X12_isPerson_v1 : GoodIn v_X12_goes (wsV RX12 111 RX12 yX12_isPerson v_X12_isPerson_v1) := goodIn_app (goodIn_of _ (by decide +kernel)) (gi cm_X12_goes_2 gd_X12_isPerson_v1)
set_option maxRecDepth 20000 in
theorem gv_X12_goes_94_X12_told_v3 : GoodIn v_X12_goes (wsV RX12 94 RX12 yX12_told v_X12_told_v3) := goodIn_app (goodIn_of _ (by decide +kernel)) (gi cm_X12_goes_3 gd_X12_told_v3)
set_option maxRecDepth 20000 in
theorem gv_X12_goes_94_X12_told_v2 : GoodIn v_X12_goes (wsV RX12 94 RX12 yX12_told v_X12_told_v2) := goodIn_app (goodIn_of _ (by decide +kernel)) (gi cm_X12_goes_4 gd_X12_told_v2)
set_option maxHeartbeats 4000000 in
set_option maxRecDepth 100000 in
theorem c_X12_goes (l : Launch) (G : va_G) (cI cJ cZ cD cR cT : ClassId) (h0 : Nat) (u1 : Int32) (u2 : Int32) (h0_2 : Nat) (h0_3 : Nat) (h0_4 : Nat) (h0_5 : Nat) (h0_9 : Nat) (h0_10 : Nat) (h0_11 : Nat) (h0_20 : Nat) (h0_22 : Nat) (h0_23 : Nat) (h0_25 : Nat) (h0_26 : Nat) (h0_29 : Nat) (h0_30 : Nat) (h0_31 : Nat) (h0_32 : Nat) (h0_39 : Nat) (h0_40 : Nat) (h0_42 : Nat) (h0_44 : Nat) (h0_45 : Nat) (sz : Nat) : Met l yX12_goes v_X12_goes ({ frames := 3, cells := 0, slots := 0, locals := 86 }) (va_Pc [.ref h0, .int u1, .int u2] (PreW G (tys6 cI cJ cZ cD cR cT) [(h0, .inr (12, [.int 0, .int 0, .ref h0_2, .ref h0_3, .ref h0_4, .ref h0_5, .int 0, .int 0, .int 0, .ref h0_9, .ref h0_10, .ref h0_11, .int 0, .int 0, .int 0, .int 0, .long 0, .int (-1), .int 0, .int 0, .ref h0_20, .int 0, .ref h0_22, .ref h0_23, .int 0, .ref h0_25, .ref h0_26, .int 0, .int 0, .ref h0_29, .ref h0_30, .ref h0_31, .ref h0_32, .int 0, .long 0, .long 0, .long 0, .long 0, .int 0, .ref h0_39, .ref h0_40, .int 0, .ref h0_42, .int 0, .ref h0_44, .ref h0_45, .int 0, .int 0, .int 0, .int 0, .int 0, .int 0])), (h0_2, .inl (cI, 35942, .inl mrow))] sz)) (QW (RI (fun r => r = F_goes u1 u2)) G (va_A [(h0, .inr (12, [.int 0, .int 0, .ref h0_2, .ref h0_3, .ref h0_4, .ref h0_5, .int 0, .int 0, .int 0, .ref h0_9, .ref h0_10, .ref h0_11, .int 0, .int 0, .int 0, .int 0, .long 0, .int (-1), .int 0, .int 0, .ref h0_20, .int 0, .ref h0_22, .ref h0_23, .int 0, .ref h0_25, .ref h0_26, .int 0, .int 0, .ref h0_29, .ref h0_30, .ref h0_31, .ref h0_32, .int 0, .long 0, .long 0, .long 0, .long 0, .int 0, .ref h0_39, .ref h0_40, .int 0, .ref h0_42, .int 0, .ref h0_44, .ref h0_45, .int 0, .int 0, .int 0, .int 0, .int 0, .int 0])), (h0_2, .inl (cI, 35942, .inl mrow))] sz) (fun q g => [])) 0 0 (va_A [(h0, .inr (12, [.int 0, .int 0, .ref h0_2, .ref h0_3, .ref h0_4, .ref h0_5, .int 0, .int 0, .int 0, .ref h0_9, .ref h0_10, .ref h0_11, .int 0, .int 0, .int 0, .int 0, .long 0, .int (-1), .int 0, .int 0, .ref h0_20, .int 0, .ref h0_22, .ref h0_23, .int 0, .ref h0_25, .ref h0_26, .int 0, .int 0, .ref h0_29, .ref h0_30, .ref h0_31, .ref h0_32, .int 0, .long 0, .long 0, .long 0, .long 0, .int 0, .ref h0_39, .ref h0_40, .int 0, .ref h0_42, .int 0, .ref h0_44, .ref h0_45, .int 0, .int 0, .int 0, .int 0, .int 0, .int 0])), (h0_2, .inl (cI, 35942, .inl mrow))] sz) := by
  refine metW (cc := cX12_goes) (maxL := 3) (ret := (some .int)) (by decide) rfl (Nat.le_of_ble_eq_true rfl) ?_
  intro p e s m below meth c A ls hx hb hr hml hown hts hlocks hin hKK hP hD hA hS hl
  have hK := hKK.1
  have hown : s.vm.findClass RX12 = some m.cls := hown
  have hl : lv_has ls 3 [(0, .ref h0), (1, .int u1), (2, .int u2)] := hl
  have hP : va_P G vwCl [(h0, .inr (12, [.int 0, .int 0, .ref h0_2, .ref h0_3, .ref h0_4, .ref h0_5, .int 0, .int 0, .int 0, .ref h0_9, .ref h0_10, .ref h0_11, .int 0, .int 0, .int 0, .int 0, .long 0, .int (-1), .int 0, .int 0, .ref h0_20, .int 0, .ref h0_22, .ref h0_23, .int 0, .ref h0_25, .ref h0_26, .int 0, .int 0, .ref h0_29, .ref h0_30, .ref h0_31, .ref h0_32, .int 0, .long 0, .long 0, .long 0, .long 0, .int 0, .ref h0_39, .ref h0_40, .int 0, .ref h0_42, .int 0, .ref h0_44, .ref h0_45, .int 0, .int 0, .int 0, .int 0, .int 0, .int 0])), (h0_2, .inl (cI, 35942, .inl mrow))] s.heap := hP
  have hD : va_D A [(h0, .inr (12, [.int 0, .int 0, .ref h0_2, .ref h0_3, .ref h0_4, .ref h0_5, .int 0, .int 0, .int 0, .ref h0_9, .ref h0_10, .ref h0_11, .int 0, .int 0, .int 0, .int 0, .long 0, .int (-1), .int 0, .int 0, .ref h0_20, .int 0, .ref h0_22, .ref h0_23, .int 0, .ref h0_25, .ref h0_26, .int 0, .int 0, .ref h0_29, .ref h0_30, .ref h0_31, .ref h0_32, .int 0, .long 0, .long 0, .long 0, .long 0, .int 0, .ref h0_39, .ref h0_40, .int 0, .ref h0_42, .int 0, .ref h0_44, .ref h0_45, .int 0, .int 0, .int 0, .int 0, .int 0, .int 0])), (h0_2, .inl (cI, 35942, .inl mrow))] := hD
  refine lv_aload_n hx hb dX12_goes_0 rfl (lv_at hl 0 rfl) ?_
  refine lv_iconst (v := 0) hx hb dX12_goes_1 (by decide) ?_
  refine va_put (D := G) (ci := 12) (v := .int 0) (ty := .int) (C := RX12) (T := TX12) (N := 52) hx hb hts cm_X12_goes_0 tyX12 tyX12_ok nmX12 hown hK hP hD hS 0 rfl rfl 0 (by decide) (hts _ (dmem (j := 0) rfl)) (fun _ h9 => h9) rfl (by decide +kernel) rfl rfl (Nat.le_of_ble_eq_true rfl) dX12_goes_2 (fun H locs => setW (ws' := [(h0, .inr (12, [.int 0, .int 0, .ref h0_2, .ref h0_3, .ref h0_4, .ref h0_5, .int 0, .int 0, .int 0, .ref h0_9, .ref h0_10, .ref h0_11, .int 0, .int 0, .int 0, .int 0, .long 0, .int (-1), .int 0, .int 0, .ref h0_20, .int 0, .ref h0_22, .ref h0_23, .int 0, .ref h0_25, .ref h0_26, .int 0, .int 0, .ref h0_29, .ref h0_30, .ref h0_31, .ref h0_32, .int 0, .long 0, .long 0, .long 0, .long 0, .int 0, .ref h0_39, .ref h0_40, .int 0, .ref h0_42, .int 0, .ref h0_44, .ref h0_45, .int 0, .int 0, .int 0, .int 0, .int 0, .int 0])), (h0_2, .inl (cI, 35942, .inl mrow))]) rfl (fun hP hD hS => ?_))
  refine lv_iload_n hx hb dX12_goes_5 rfl (lv_at hl 2 rfl) ?_
  refine lv_i2l hx hb dX12_goes_6 rfl ?_
  refine lv_lconst (v := 0) hx hb dX12_goes_7 (by decide) ?_
  refine lv_ldc2 (v := 4) hx hb hown (hts _ (dmem (j := 1) rfl)) dX12_goes_8 ?_
  refine goS (As := [.long (u2).toInt64, .long 0, .long 4]) (rest := []) (wr := [(h0, .inr (12, [.int 0, .int 0, .ref h0_2, .ref h0_3, .ref h0_4, .ref h0_5, .int 0, .int 0, .int 0, .ref h0_9, .ref h0_10, .ref h0_11, .int 0, .int 0, .int 0, .int 0, .long 0, .int (-1), .int 0, .int 0, .ref h0_20, .int 0, .ref h0_22, .ref h0_23, .int 0, .ref h0_25, .ref h0_26, .int 0, .int 0, .ref h0_29, .ref h0_30, .ref h0_31, .ref h0_32, .int 0, .long 0, .long 0, .long 0, .long 0, .int 0, .ref h0_39, .ref h0_40, .int 0, .ref h0_42, .int 0, .ref h0_44, .ref h0_45, .int 0, .int 0, .int 0, .int 0, .int 0, .int 0])), (h0_2, .inl (cI, 35942, .inl mrow))]) ⟨hx, hb, hml, hown, hts⟩ (c_X12_in l G cI cJ cZ cD cR cT (u2).toInt64 0 4 u2.toInt 0 4 _ (Int32.toInt_toInt64 u2) (by decide) (by decide)) (va_cwS 3 hts gv_X12_goes_90_X12_in rfl rfl rfl (by decide +kernel) ⟨Nat.le_of_ble_eq_true rfl, Nat.le_of_ble_eq_true rfl⟩) hKK hP hD hS hA [] [0, 1] rfl rfl (by decide +kernel) (by decide +kernel) (by decide +kernel) rfl hl.1 rfl (lv_room (Nat.le_of_ble_eq_true rfl)) dX12_goes_11 ⟨Nat.le_of_ble_eq_true rfl, Nat.le_of_ble_eq_true rfl⟩ (fun v2 q1 gq1 H locs hv2 => appW (ws' := [(h0, .inr (12, [.int 0, .int 0, .ref h0_2, .ref h0_3, .ref h0_4, .ref h0_5, .int 0, .int 0, .int 0, .ref h0_9, .ref h0_10, .ref h0_11, .int 0, .int 0, .int 0, .int 0, .long 0, .int (-1), .int 0, .int 0, .ref h0_20, .int 0, .ref h0_22, .ref h0_23, .int 0, .ref h0_25, .ref h0_26, .int 0, .int 0, .ref h0_29, .ref h0_30, .ref h0_31, .ref h0_32, .int 0, .long 0, .long 0, .long 0, .long 0, .int 0, .ref h0_39, .ref h0_40, .int 0, .ref h0_42, .int 0, .ref h0_44, .ref h0_45, .int 0, .int 0, .int 0, .int 0, .int 0, .int 0])), (h0_2, .inl (cI, 35942, .inl mrow))]) rfl (fun hP hD hS => ?_))
  obtain ⟨_, rfl, h4⟩ := hv2
  rcases h4 with ⟨rfl, h4⟩ | ⟨rfl, h4⟩
  · refine lv_if_ne (tgt := 23) hx hb dX12_goes_14 (by decide) (fun _ => ?_) (fun c => absurd c (by decide))
    refine lv_aload_n hx hb dX12_goes_23 rfl (lv_at hl 0 rfl) ?_
    refine lv_iload_n hx hb dX12_goes_24 rfl (lv_at hl 1 rfl) ?_
    refine goV (As := [.int u1]) (rest := []) (wr := []) ⟨hx, hb, hml, hown, hts⟩ (c_X12_isPerson_v1 l G cI cJ cZ cD cR cT h0 u1 h0_2 h0_3 h0_4 h0_5 h0_9 h0_10 h0_11 h0_20 h0_22 h0_23 h0_25 h0_26 h0_29 h0_30 h0_31 h0_32 h0_39 h0_40 h0_42 h0_44 h0_45 _) (cwV 1 hts gv_X12_goes_111_X12_isPerson_v1 rfl rfl rfl (by decide +kernel) ⟨Nat.le_of_ble_eq_true rfl, Nat.le_of_ble_eq_true rfl⟩) 0 rfl rfl rfl hKK hP hD hS hA [0, 1] [] rfl rfl (by decide +kernel) (by decide +kernel) (by decide +kernel) rfl hl.1 rfl (lv_room (Nat.le_of_ble_eq_true rfl)) dX12_goes_25 ⟨Nat.le_of_ble_eq_true rfl, Nat.le_of_ble_eq_true rfl⟩ (fun v6 q5 gq5 H locs hv6 => appW (ws' := [(h0, .inr (12, [.int 0, .int 0, .ref h0_2, .ref h0_3, .ref h0_4, .ref h0_5, .int 0, .int 0, .int 0, .ref h0_9, .ref h0_10, .ref h0_11, .int 0, .int 0, .int 0, .int 0, .long 0, .int (-1), .int 0, .int 0, .ref h0_20, .int 0, .ref h0_22, .ref h0_23, .int 0, .ref h0_25, .ref h0_26, .int 0, .int 0, .ref h0_29, .ref h0_30, .ref h0_31, .ref h0_32, .int 0, .long 0, .long 0, .long 0, .long 0, .int 0, .ref h0_39, .ref h0_40, .int 0, .ref h0_42, .int 0, .ref h0_44, .ref h0_45, .int 0, .int 0, .int 0, .int 0, .int 0, .int 0])), (h0_2, .inl (cI, 35942, .inl mrow))]) rfl (fun hP hD hS => ?_))
    obtain ⟨_, rfl, rfl⟩ := hv6
    refine lv_if_ne (tgt := 38) hx hb dX12_goes_28 (by decide) (fun c => absurd c (by decide)) (fun _ => ?_)
    refine lv_aload_n hx hb dX12_goes_31 rfl (lv_at hl 0 rfl) ?_
    refine lv_bipush (v := (-2)) hx hb dX12_goes_32 (by decide) ?_
    refine goV (As := [.int (-2)]) (rest := []) (wr := [(h0_2, .inl (cI, 35942, .inl mrow))]) ⟨hx, hb, hml, hown, hts⟩ (c_X12_told_v3 l G cI cJ cZ cD cR cT h0 h0_2 h0_3 h0_4 h0_5 h0_9 h0_10 h0_11 h0_20 h0_22 h0_23 h0_25 h0_26 h0_29 h0_30 h0_31 h0_32 h0_39 h0_40 h0_42 h0_44 h0_45 _) (cwV 1 hts gv_X12_goes_94_X12_told_v3 rfl rfl rfl (by decide +kernel) ⟨Nat.le_of_ble_eq_true rfl, Nat.le_of_ble_eq_true rfl⟩) 0 rfl rfl rfl hKK hP hD hS hA [0] [1] rfl rfl (by decide +kernel) (by decide +kernel) (by decide +kernel) rfl hl.1 rfl (lv_room (Nat.le_of_ble_eq_true rfl)) dX12_goes_34 ⟨Nat.le_of_ble_eq_true rfl, Nat.le_of_ble_eq_true rfl⟩ (fun v9 q8 gq8 H locs hv9 => appW (ws' := [(h0_2, .inl (cI, 35942, .inl mrow)), (h0, .inr (12, [.int 0, .int (-2), .ref h0_2, .ref h0_3, .ref h0_4, .ref h0_5, .int 0, .int 0, .int 0, .ref h0_9, .ref h0_10, .ref h0_11, .int 0, .int 0, .int 0, .int 0, .long 0, .int (-1), .int 0, .int 0, .ref h0_20, .int 0, .ref h0_22, .ref h0_23, .int 0, .ref h0_25, .ref h0_26, .int 0, .int 0, .ref h0_29, .ref h0_30, .ref h0_31, .ref h0_32, .int 0, .long 0, .long 0, .long 0, .long 0, .int 0, .ref h0_39, .ref h0_40, .int 0, .ref h0_42, .int 0, .ref h0_44, .ref h0_45, .int 0, .int 0, .int 0, .int 0, .int 0, .int 0]))]) rfl (fun hP hD hS => ?_))
    obtain ⟨_, rfl, rfl⟩ := hv9
    exact retI hx hb hr hlocks ⟨_, rfl, by have hz0 : (0 : Int32).toInt = 0 := rfl; have hz1 : (1 : Int32).toInt = 1 := rfl; unfold F_goes; (repeat' split) <;> first | rfl | (exfalso; omega)⟩ hP hD hS (fun _ => 0) (fun _ _ => 0) [] (by decide +kernel) rfl dX12_goes_37
  · refine lv_if_ne (tgt := 23) hx hb dX12_goes_14 (by decide) (fun c => absurd c (by decide)) (fun _ => ?_)
    refine lv_aload_n hx hb dX12_goes_17 rfl (lv_at hl 0 rfl) ?_
    refine lv_iconst (v := (-1)) hx hb dX12_goes_18 (by decide) ?_
    refine goV (As := [.int (-1)]) (rest := []) (wr := [(h0_2, .inl (cI, 35942, .inl mrow))]) ⟨hx, hb, hml, hown, hts⟩ (c_X12_told_v2 l G cI cJ cZ cD cR cT h0 h0_2 h0_3 h0_4 h0_5 h0_9 h0_10 h0_11 h0_20 h0_22 h0_23 h0_25 h0_26 h0_29 h0_30 h0_31 h0_32 h0_39 h0_40 h0_42 h0_44 h0_45 _) (cwV 1 hts gv_X12_goes_94_X12_told_v2 rfl rfl rfl (by decide +kernel) ⟨Nat.le_of_ble_eq_true rfl, Nat.le_of_ble_eq_true rfl⟩) 0 rfl rfl rfl hKK hP hD hS hA [0] [1] rfl rfl (by decide +kernel) (by decide +kernel) (by decide +kernel) rfl hl.1 rfl (lv_room (Nat.le_of_ble_eq_true rfl)) dX12_goes_19 ⟨Nat.le_of_ble_eq_true rfl, Nat.le_of_ble_eq_true rfl⟩ (fun v12 q11 gq11 H locs hv12 => appW (ws' := [(h0_2, .inl (cI, 35942, .inl mrow)), (h0, .inr (12, [.int 0, .int (-1), .ref h0_2, .ref h0_3, .ref h0_4, .ref h0_5, .int 0, .int 0, .int 0, .ref h0_9, .ref h0_10, .ref h0_11, .int 0, .int 0, .int 0, .int 0, .long 0, .int (-1), .int 0, .int 0, .ref h0_20, .int 0, .ref h0_22, .ref h0_23, .int 0, .ref h0_25, .ref h0_26, .int 0, .int 0, .ref h0_29, .ref h0_30, .ref h0_31, .ref h0_32, .int 0, .long 0, .long 0, .long 0, .long 0, .int 0, .ref h0_39, .ref h0_40, .int 0, .ref h0_42, .int 0, .ref h0_44, .ref h0_45, .int 0, .int 0, .int 0, .int 0, .int 0, .int 0]))]) rfl (fun hP hD hS => ?_))
    obtain ⟨_, rfl, rfl⟩ := hv12
    exact retI hx hb hr hlocks ⟨_, rfl, by have hz0 : (0 : Int32).toInt = 0 := rfl; have hz1 : (1 : Int32).toInt = 1 := rfl; unfold F_goes; (repeat' split) <;> first | rfl | (exfalso; omega)⟩ hP hD hS (fun _ => 0) (fun _ _ => 0) [] (by decide +kernel) rfl dX12_goes_22
def d_X12_coin : List Cond := [Cond.fieldLink RX12 82 "NoRentModel" "thrown" "I", Cond.constantLong RX12 100 (1000000), Cond.methodLink RX12 90 yX12_in, Cond.static yX12_in, Cond.initialized RX12, Cond.methodLink RX12 111 yX12_isPerson, Cond.instanceMethod yX12_isPerson, Cond.selects RX12 yX12_isPerson yX12_isPerson, Cond.methodLink RX12 94 yX12_told, Cond.instanceMethod yX12_told, Cond.selects RX12 yX12_told yX12_told]
def v_X12_coin : List Cond := Cond.code yX12_coin cX12_coin 3 (some .int) :: (d_X12_coin ++ (wsX120 ++ (v_X12_in ++ (v_X12_isPerson_v1 ++ (v_X12_told_v3 ++ (v_X12_told_v2 ++ ([] : List Cond)))))))
theorem cm_X12_coin_0 : ∀ w ∈ wsX120, w ∈ v_X12_coin := fun _ h => List.mem_cons_of_mem _ (List.mem_append_right _ (List.mem_append_left _ h))
theorem cm_X12_coin_1 : ∀ w ∈ v_X12_in, w ∈ v_X12_coin := fun _ h => List.mem_cons_of_mem _ (List.mem_append_right _ (List.mem_append_right _ (List.mem_append_left _ h)))
theorem cm_X12_coin_2 : ∀ w ∈ v_X12_isPerson_v1, w ∈ v_X12_coin := fun _ h => List.mem_cons_of_mem _ (List.mem_append_right _ (List.mem_append_right _ (List.mem_append_right _ (List.mem_append_left _ h))))
theorem cm_X12_coin_3 : ∀ w ∈ v_X12_told_v3, w ∈ v_X12_coin := fun _ h => List.mem_cons_of_mem _ (List.mem_append_right _ (List.mem_append_right _ (List.mem_append_right _ (List.mem_append_right _ (List.mem_append_left _ h)))))
theorem cm_X12_coin_4 : ∀ w ∈ v_X12_told_v2, w ∈ v_X12_coin := fun _ h => List.mem_cons_of_mem _ (List.mem_append_right _ (List.mem_append_right _ (List.mem_append_right _ (List.mem_append_right _ (List.mem_append_right _ (List.mem_append_left _ h))))))
theorem gd_X12_coin : Gd v_X12_coin := gd_mk (by decide +kernel) (gd_app gd_X12 (gd_app gd_X12_in (gd_app gd_X12_isPerson_v1 (gd_app gd_X12_told_v3 (gd_app gd_X12_told_v2 gd_nil)))))
set_option maxRecDepth 20000 in
theorem gv_X12_coin_90_X12_in : GoodIn v_X12_coin (va_wsS RX12 90 yX12_in v_X12_in) := goodIn_app (goodIn_of _ (by decide +kernel)) (gi cm_X12_coin_1 gd_X12_in)
set_option maxRecDepth 20000 in
theorem gv_X12_coin_111_X12_isPerson_v1 : GoodIn v_X12_coin (wsV RX12 111 RX12 yX12_isPerson v_X12_isPerson_v1) := goodIn_app (goodIn_of _ (by decide +kernel)) (gi cm_X12_coin_2 gd_X12_isPerson_v1)
set_option maxRecDepth 20000 in
theorem gv_X12_coin_94_X12_told_v3 : GoodIn v_X12_coin (wsV RX12 94 RX12 yX12_told v_X12_told_v3) := goodIn_app (goodIn_of _ (by decide +kernel)) (gi cm_X12_coin_3 gd_X12_told_v3)
set_option maxRecDepth 20000 in
theorem gv_X12_coin_94_X12_told_v2 : GoodIn v_X12_coin (wsV RX12 94 RX12 yX12_told v_X12_told_v2) := goodIn_app (goodIn_of _ (by decide +kernel)) (gi cm_X12_coin_4 gd_X12_told_v2)
set_option maxHeartbeats 4000000 in
set_option maxRecDepth 100000 in
theorem c_X12_coin (l : Launch) (G : va_G) (cI cJ cZ cD cR cT : ClassId) (h0 : Nat) (u1 : Int32) (u2 : Int32) (h0_2 : Nat) (h0_3 : Nat) (h0_4 : Nat) (h0_5 : Nat) (h0_9 : Nat) (h0_10 : Nat) (h0_11 : Nat) (h0_20 : Nat) (h0_22 : Nat) (h0_23 : Nat) (h0_25 : Nat) (h0_26 : Nat) (h0_29 : Nat) (h0_30 : Nat) (h0_31 : Nat) (h0_32 : Nat) (h0_39 : Nat) (h0_40 : Nat) (h0_42 : Nat) (h0_44 : Nat) (h0_45 : Nat) (sz : Nat) : Met l yX12_coin v_X12_coin ({ frames := 3, cells := 0, slots := 0, locals := 86 }) (va_Pc [.ref h0, .int u1, .int u2] (PreW G (tys6 cI cJ cZ cD cR cT) [(h0, .inr (12, [.int 0, .int 0, .ref h0_2, .ref h0_3, .ref h0_4, .ref h0_5, .int 0, .int 0, .int 0, .ref h0_9, .ref h0_10, .ref h0_11, .int 0, .int 0, .int 0, .int 0, .long 0, .int (-1), .int 0, .int 0, .ref h0_20, .int 0, .ref h0_22, .ref h0_23, .int 0, .ref h0_25, .ref h0_26, .int 0, .int 0, .ref h0_29, .ref h0_30, .ref h0_31, .ref h0_32, .int 0, .long 0, .long 0, .long 0, .long 0, .int 0, .ref h0_39, .ref h0_40, .int 0, .ref h0_42, .int 0, .ref h0_44, .ref h0_45, .int 0, .int 0, .int 0, .int 0, .int 0, .int 0])), (h0_2, .inl (cI, 35942, .inl mrow))] sz)) (QW (RI (fun r => r = F_coin u1 u2)) G (va_A [(h0, .inr (12, [.int 0, .int 0, .ref h0_2, .ref h0_3, .ref h0_4, .ref h0_5, .int 0, .int 0, .int 0, .ref h0_9, .ref h0_10, .ref h0_11, .int 0, .int 0, .int 0, .int 0, .long 0, .int (-1), .int 0, .int 0, .ref h0_20, .int 0, .ref h0_22, .ref h0_23, .int 0, .ref h0_25, .ref h0_26, .int 0, .int 0, .ref h0_29, .ref h0_30, .ref h0_31, .ref h0_32, .int 0, .long 0, .long 0, .long 0, .long 0, .int 0, .ref h0_39, .ref h0_40, .int 0, .ref h0_42, .int 0, .ref h0_44, .ref h0_45, .int 0, .int 0, .int 0, .int 0, .int 0, .int 0])), (h0_2, .inl (cI, 35942, .inl mrow))] sz) (fun q g => [])) 0 0 (va_A [(h0, .inr (12, [.int 0, .int 0, .ref h0_2, .ref h0_3, .ref h0_4, .ref h0_5, .int 0, .int 0, .int 0, .ref h0_9, .ref h0_10, .ref h0_11, .int 0, .int 0, .int 0, .int 0, .long 0, .int (-1), .int 0, .int 0, .ref h0_20, .int 0, .ref h0_22, .ref h0_23, .int 0, .ref h0_25, .ref h0_26, .int 0, .int 0, .ref h0_29, .ref h0_30, .ref h0_31, .ref h0_32, .int 0, .long 0, .long 0, .long 0, .long 0, .int 0, .ref h0_39, .ref h0_40, .int 0, .ref h0_42, .int 0, .ref h0_44, .ref h0_45, .int 0, .int 0, .int 0, .int 0, .int 0, .int 0])), (h0_2, .inl (cI, 35942, .inl mrow))] sz) := by
  refine metW (cc := cX12_coin) (maxL := 3) (ret := (some .int)) (by decide) rfl (Nat.le_of_ble_eq_true rfl) ?_
  intro p e s m below meth c A ls hx hb hr hml hown hts hlocks hin hKK hP hD hA hS hl
  have hK := hKK.1
  have hown : s.vm.findClass RX12 = some m.cls := hown
  have hl : lv_has ls 3 [(0, .ref h0), (1, .int u1), (2, .int u2)] := hl
  have hP : va_P G vwCl [(h0, .inr (12, [.int 0, .int 0, .ref h0_2, .ref h0_3, .ref h0_4, .ref h0_5, .int 0, .int 0, .int 0, .ref h0_9, .ref h0_10, .ref h0_11, .int 0, .int 0, .int 0, .int 0, .long 0, .int (-1), .int 0, .int 0, .ref h0_20, .int 0, .ref h0_22, .ref h0_23, .int 0, .ref h0_25, .ref h0_26, .int 0, .int 0, .ref h0_29, .ref h0_30, .ref h0_31, .ref h0_32, .int 0, .long 0, .long 0, .long 0, .long 0, .int 0, .ref h0_39, .ref h0_40, .int 0, .ref h0_42, .int 0, .ref h0_44, .ref h0_45, .int 0, .int 0, .int 0, .int 0, .int 0, .int 0])), (h0_2, .inl (cI, 35942, .inl mrow))] s.heap := hP
  have hD : va_D A [(h0, .inr (12, [.int 0, .int 0, .ref h0_2, .ref h0_3, .ref h0_4, .ref h0_5, .int 0, .int 0, .int 0, .ref h0_9, .ref h0_10, .ref h0_11, .int 0, .int 0, .int 0, .int 0, .long 0, .int (-1), .int 0, .int 0, .ref h0_20, .int 0, .ref h0_22, .ref h0_23, .int 0, .ref h0_25, .ref h0_26, .int 0, .int 0, .ref h0_29, .ref h0_30, .ref h0_31, .ref h0_32, .int 0, .long 0, .long 0, .long 0, .long 0, .int 0, .ref h0_39, .ref h0_40, .int 0, .ref h0_42, .int 0, .ref h0_44, .ref h0_45, .int 0, .int 0, .int 0, .int 0, .int 0, .int 0])), (h0_2, .inl (cI, 35942, .inl mrow))] := hD
  refine lv_aload_n hx hb dX12_coin_0 rfl (lv_at hl 0 rfl) ?_
  refine lv_iconst (v := 0) hx hb dX12_coin_1 (by decide) ?_
  refine va_put (D := G) (ci := 12) (v := .int 0) (ty := .int) (C := RX12) (T := TX12) (N := 52) hx hb hts cm_X12_coin_0 tyX12 tyX12_ok nmX12 hown hK hP hD hS 0 rfl rfl 0 (by decide) (hts _ (dmem (j := 0) rfl)) (fun _ h9 => h9) rfl (by decide +kernel) rfl rfl (Nat.le_of_ble_eq_true rfl) dX12_coin_2 (fun H locs => setW (ws' := [(h0, .inr (12, [.int 0, .int 0, .ref h0_2, .ref h0_3, .ref h0_4, .ref h0_5, .int 0, .int 0, .int 0, .ref h0_9, .ref h0_10, .ref h0_11, .int 0, .int 0, .int 0, .int 0, .long 0, .int (-1), .int 0, .int 0, .ref h0_20, .int 0, .ref h0_22, .ref h0_23, .int 0, .ref h0_25, .ref h0_26, .int 0, .int 0, .ref h0_29, .ref h0_30, .ref h0_31, .ref h0_32, .int 0, .long 0, .long 0, .long 0, .long 0, .int 0, .ref h0_39, .ref h0_40, .int 0, .ref h0_42, .int 0, .ref h0_44, .ref h0_45, .int 0, .int 0, .int 0, .int 0, .int 0, .int 0])), (h0_2, .inl (cI, 35942, .inl mrow))]) rfl (fun hP hD hS => ?_))
  refine lv_iload_n hx hb dX12_coin_5 rfl (lv_at hl 2 rfl) ?_
  refine lv_i2l hx hb dX12_coin_6 rfl ?_
  refine lv_lconst (v := 0) hx hb dX12_coin_7 (by decide) ?_
  refine lv_ldc2 (v := 1000000) hx hb hown (hts _ (dmem (j := 1) rfl)) dX12_coin_8 ?_
  refine goS (As := [.long (u2).toInt64, .long 0, .long 1000000]) (rest := []) (wr := [(h0, .inr (12, [.int 0, .int 0, .ref h0_2, .ref h0_3, .ref h0_4, .ref h0_5, .int 0, .int 0, .int 0, .ref h0_9, .ref h0_10, .ref h0_11, .int 0, .int 0, .int 0, .int 0, .long 0, .int (-1), .int 0, .int 0, .ref h0_20, .int 0, .ref h0_22, .ref h0_23, .int 0, .ref h0_25, .ref h0_26, .int 0, .int 0, .ref h0_29, .ref h0_30, .ref h0_31, .ref h0_32, .int 0, .long 0, .long 0, .long 0, .long 0, .int 0, .ref h0_39, .ref h0_40, .int 0, .ref h0_42, .int 0, .ref h0_44, .ref h0_45, .int 0, .int 0, .int 0, .int 0, .int 0, .int 0])), (h0_2, .inl (cI, 35942, .inl mrow))]) ⟨hx, hb, hml, hown, hts⟩ (c_X12_in l G cI cJ cZ cD cR cT (u2).toInt64 0 1000000 u2.toInt 0 1000000 _ (Int32.toInt_toInt64 u2) (by decide) (by decide)) (va_cwS 3 hts gv_X12_coin_90_X12_in rfl rfl rfl (by decide +kernel) ⟨Nat.le_of_ble_eq_true rfl, Nat.le_of_ble_eq_true rfl⟩) hKK hP hD hS hA [] [0, 1] rfl rfl (by decide +kernel) (by decide +kernel) (by decide +kernel) rfl hl.1 rfl (lv_room (Nat.le_of_ble_eq_true rfl)) dX12_coin_11 ⟨Nat.le_of_ble_eq_true rfl, Nat.le_of_ble_eq_true rfl⟩ (fun v2 q1 gq1 H locs hv2 => appW (ws' := [(h0, .inr (12, [.int 0, .int 0, .ref h0_2, .ref h0_3, .ref h0_4, .ref h0_5, .int 0, .int 0, .int 0, .ref h0_9, .ref h0_10, .ref h0_11, .int 0, .int 0, .int 0, .int 0, .long 0, .int (-1), .int 0, .int 0, .ref h0_20, .int 0, .ref h0_22, .ref h0_23, .int 0, .ref h0_25, .ref h0_26, .int 0, .int 0, .ref h0_29, .ref h0_30, .ref h0_31, .ref h0_32, .int 0, .long 0, .long 0, .long 0, .long 0, .int 0, .ref h0_39, .ref h0_40, .int 0, .ref h0_42, .int 0, .ref h0_44, .ref h0_45, .int 0, .int 0, .int 0, .int 0, .int 0, .int 0])), (h0_2, .inl (cI, 35942, .inl mrow))]) rfl (fun hP hD hS => ?_))
  obtain ⟨_, rfl, h4⟩ := hv2
  rcases h4 with ⟨rfl, h4⟩ | ⟨rfl, h4⟩
  · refine lv_if_ne (tgt := 23) hx hb dX12_coin_14 (by decide) (fun _ => ?_) (fun c => absurd c (by decide))
    refine lv_aload_n hx hb dX12_coin_23 rfl (lv_at hl 0 rfl) ?_
    refine lv_iload_n hx hb dX12_coin_24 rfl (lv_at hl 1 rfl) ?_
    refine goV (As := [.int u1]) (rest := []) (wr := []) ⟨hx, hb, hml, hown, hts⟩ (c_X12_isPerson_v1 l G cI cJ cZ cD cR cT h0 u1 h0_2 h0_3 h0_4 h0_5 h0_9 h0_10 h0_11 h0_20 h0_22 h0_23 h0_25 h0_26 h0_29 h0_30 h0_31 h0_32 h0_39 h0_40 h0_42 h0_44 h0_45 _) (cwV 1 hts gv_X12_coin_111_X12_isPerson_v1 rfl rfl rfl (by decide +kernel) ⟨Nat.le_of_ble_eq_true rfl, Nat.le_of_ble_eq_true rfl⟩) 0 rfl rfl rfl hKK hP hD hS hA [0, 1] [] rfl rfl (by decide +kernel) (by decide +kernel) (by decide +kernel) rfl hl.1 rfl (lv_room (Nat.le_of_ble_eq_true rfl)) dX12_coin_25 ⟨Nat.le_of_ble_eq_true rfl, Nat.le_of_ble_eq_true rfl⟩ (fun v6 q5 gq5 H locs hv6 => appW (ws' := [(h0, .inr (12, [.int 0, .int 0, .ref h0_2, .ref h0_3, .ref h0_4, .ref h0_5, .int 0, .int 0, .int 0, .ref h0_9, .ref h0_10, .ref h0_11, .int 0, .int 0, .int 0, .int 0, .long 0, .int (-1), .int 0, .int 0, .ref h0_20, .int 0, .ref h0_22, .ref h0_23, .int 0, .ref h0_25, .ref h0_26, .int 0, .int 0, .ref h0_29, .ref h0_30, .ref h0_31, .ref h0_32, .int 0, .long 0, .long 0, .long 0, .long 0, .int 0, .ref h0_39, .ref h0_40, .int 0, .ref h0_42, .int 0, .ref h0_44, .ref h0_45, .int 0, .int 0, .int 0, .int 0, .int 0, .int 0])), (h0_2, .inl (cI, 35942, .inl mrow))]) rfl (fun hP hD hS => ?_))
    obtain ⟨_, rfl, rfl⟩ := hv6
    refine lv_if_ne (tgt := 38) hx hb dX12_coin_28 (by decide) (fun c => absurd c (by decide)) (fun _ => ?_)
    refine lv_aload_n hx hb dX12_coin_31 rfl (lv_at hl 0 rfl) ?_
    refine lv_bipush (v := (-2)) hx hb dX12_coin_32 (by decide) ?_
    refine goV (As := [.int (-2)]) (rest := []) (wr := [(h0_2, .inl (cI, 35942, .inl mrow))]) ⟨hx, hb, hml, hown, hts⟩ (c_X12_told_v3 l G cI cJ cZ cD cR cT h0 h0_2 h0_3 h0_4 h0_5 h0_9 h0_10 h0_11 h0_20 h0_22 h0_23 h0_25 h0_26 h0_29 h0_30 h0_31 h0_32 h0_39 h0_40 h0_42 h0_44 h0_45 _) (cwV 1 hts gv_X12_coin_94_X12_told_v3 rfl rfl rfl (by decide +kernel) ⟨Nat.le_of_ble_eq_true rfl, Nat.le_of_ble_eq_true rfl⟩) 0 rfl rfl rfl hKK hP hD hS hA [0] [1] rfl rfl (by decide +kernel) (by decide +kernel) (by decide +kernel) rfl hl.1 rfl (lv_room (Nat.le_of_ble_eq_true rfl)) dX12_coin_34 ⟨Nat.le_of_ble_eq_true rfl, Nat.le_of_ble_eq_true rfl⟩ (fun v9 q8 gq8 H locs hv9 => appW (ws' := [(h0_2, .inl (cI, 35942, .inl mrow)), (h0, .inr (12, [.int 0, .int (-2), .ref h0_2, .ref h0_3, .ref h0_4, .ref h0_5, .int 0, .int 0, .int 0, .ref h0_9, .ref h0_10, .ref h0_11, .int 0, .int 0, .int 0, .int 0, .long 0, .int (-1), .int 0, .int 0, .ref h0_20, .int 0, .ref h0_22, .ref h0_23, .int 0, .ref h0_25, .ref h0_26, .int 0, .int 0, .ref h0_29, .ref h0_30, .ref h0_31, .ref h0_32, .int 0, .long 0, .long 0, .long 0, .long 0, .int 0, .ref h0_39, .ref h0_40, .int 0, .ref h0_42, .int 0, .ref h0_44, .ref h0_45, .int 0, .int 0, .int 0, .int 0, .int 0, .int 0]))]) rfl (fun hP hD hS => ?_))
    obtain ⟨_, rfl, rfl⟩ := hv9
    exact retI hx hb hr hlocks ⟨_, rfl, by have hz0 : (0 : Int32).toInt = 0 := rfl; have hz1 : (1 : Int32).toInt = 1 := rfl; unfold F_coin; (repeat' split) <;> first | rfl | (exfalso; omega)⟩ hP hD hS (fun _ => 0) (fun _ _ => 0) [] (by decide +kernel) rfl dX12_coin_37
  · refine lv_if_ne (tgt := 23) hx hb dX12_coin_14 (by decide) (fun c => absurd c (by decide)) (fun _ => ?_)
    refine lv_aload_n hx hb dX12_coin_17 rfl (lv_at hl 0 rfl) ?_
    refine lv_iconst (v := (-1)) hx hb dX12_coin_18 (by decide) ?_
    refine goV (As := [.int (-1)]) (rest := []) (wr := [(h0_2, .inl (cI, 35942, .inl mrow))]) ⟨hx, hb, hml, hown, hts⟩ (c_X12_told_v2 l G cI cJ cZ cD cR cT h0 h0_2 h0_3 h0_4 h0_5 h0_9 h0_10 h0_11 h0_20 h0_22 h0_23 h0_25 h0_26 h0_29 h0_30 h0_31 h0_32 h0_39 h0_40 h0_42 h0_44 h0_45 _) (cwV 1 hts gv_X12_coin_94_X12_told_v2 rfl rfl rfl (by decide +kernel) ⟨Nat.le_of_ble_eq_true rfl, Nat.le_of_ble_eq_true rfl⟩) 0 rfl rfl rfl hKK hP hD hS hA [0] [1] rfl rfl (by decide +kernel) (by decide +kernel) (by decide +kernel) rfl hl.1 rfl (lv_room (Nat.le_of_ble_eq_true rfl)) dX12_coin_19 ⟨Nat.le_of_ble_eq_true rfl, Nat.le_of_ble_eq_true rfl⟩ (fun v12 q11 gq11 H locs hv12 => appW (ws' := [(h0_2, .inl (cI, 35942, .inl mrow)), (h0, .inr (12, [.int 0, .int (-1), .ref h0_2, .ref h0_3, .ref h0_4, .ref h0_5, .int 0, .int 0, .int 0, .ref h0_9, .ref h0_10, .ref h0_11, .int 0, .int 0, .int 0, .int 0, .long 0, .int (-1), .int 0, .int 0, .ref h0_20, .int 0, .ref h0_22, .ref h0_23, .int 0, .ref h0_25, .ref h0_26, .int 0, .int 0, .ref h0_29, .ref h0_30, .ref h0_31, .ref h0_32, .int 0, .long 0, .long 0, .long 0, .long 0, .int 0, .ref h0_39, .ref h0_40, .int 0, .ref h0_42, .int 0, .ref h0_44, .ref h0_45, .int 0, .int 0, .int 0, .int 0, .int 0, .int 0]))]) rfl (fun hP hD hS => ?_))
    obtain ⟨_, rfl, rfl⟩ := hv12
    exact retI hx hb hr hlocks ⟨_, rfl, by have hz0 : (0 : Int32).toInt = 0 := rfl; have hz1 : (1 : Int32).toInt = 1 := rfl; unfold F_coin; (repeat' split) <;> first | rfl | (exfalso; omega)⟩ hP hD hS (fun _ => 0) (fun _ _ => 0) [] (by decide +kernel) rfl dX12_coin_22
def d_X12_told_v4 : List Cond := [Cond.fieldLink RX12 85 "NoRentModel" "status" "I"]
def v_X12_told_v4 : List Cond := Cond.code yX12_told cX12_told 2 (some .int) :: (d_X12_told_v4 ++ (wsX120 ++ ([] : List Cond)))
theorem cm_X12_told_v4_0 : ∀ w ∈ wsX120, w ∈ v_X12_told_v4 := fun _ h => List.mem_cons_of_mem _ (List.mem_append_right _ (List.mem_append_left _ h))
theorem gd_X12_told_v4 : Gd v_X12_told_v4 := gd_mk (by decide +kernel) (gd_app gd_X12 gd_nil)
set_option maxHeartbeats 4000000 in
set_option maxRecDepth 100000 in
theorem c_X12_told_v4 (l : Launch) (G : va_G) (cI cJ cZ cD cR cT : ClassId) (h0 : Nat) (n1 : Int32) (h0_2 : Nat) (h0_3 : Nat) (h0_4 : Nat) (h0_5 : Nat) (h0_9 : Nat) (h0_10 : Nat) (h0_11 : Nat) (h0_20 : Nat) (h0_22 : Nat) (h0_23 : Nat) (h0_25 : Nat) (h0_26 : Nat) (h0_29 : Nat) (h0_30 : Nat) (h0_31 : Nat) (h0_32 : Nat) (h0_39 : Nat) (h0_40 : Nat) (h0_42 : Nat) (h0_44 : Nat) (h0_45 : Nat) (sz : Nat) (hb_n1 : (0 : Int) ≤ n1.toInt ∧ n1.toInt ≤ 10000000) : Met l yX12_told v_X12_told_v4 ({ frames := 1, cells := 0, slots := 0, locals := 40 }) (va_Pc [.ref h0, .int n1] (PreW G (tys6 cI cJ cZ cD cR cT) [(h0, .inr (12, [.int 0, .int 0, .ref h0_2, .ref h0_3, .ref h0_4, .ref h0_5, .int 0, .int 0, .int 0, .ref h0_9, .ref h0_10, .ref h0_11, .int 0, .int 0, .int 0, .int 0, .long 0, .int (-1), .int 0, .int 0, .ref h0_20, .int 0, .ref h0_22, .ref h0_23, .int 0, .ref h0_25, .ref h0_26, .int 0, .int 0, .ref h0_29, .ref h0_30, .ref h0_31, .ref h0_32, .int 0, .long 0, .long 0, .long 0, .long 0, .int 0, .ref h0_39, .ref h0_40, .int 0, .ref h0_42, .int 0, .ref h0_44, .ref h0_45, .int 0, .int 0, .int 0, .int 0, .int 0, .int 0]))] sz)) (QW (RI (fun r => r = n1)) G (va_A [(h0, .inr (12, [.int 0, .int 0, .ref h0_2, .ref h0_3, .ref h0_4, .ref h0_5, .int 0, .int 0, .int 0, .ref h0_9, .ref h0_10, .ref h0_11, .int 0, .int 0, .int 0, .int 0, .long 0, .int (-1), .int 0, .int 0, .ref h0_20, .int 0, .ref h0_22, .ref h0_23, .int 0, .ref h0_25, .ref h0_26, .int 0, .int 0, .ref h0_29, .ref h0_30, .ref h0_31, .ref h0_32, .int 0, .long 0, .long 0, .long 0, .long 0, .int 0, .ref h0_39, .ref h0_40, .int 0, .ref h0_42, .int 0, .ref h0_44, .ref h0_45, .int 0, .int 0, .int 0, .int 0, .int 0, .int 0]))] sz) (fun q g => [(h0, .inr (12, [.int 0, .int 0, .ref h0_2, .ref h0_3, .ref h0_4, .ref h0_5, .int 0, .int 0, .int 0, .ref h0_9, .ref h0_10, .ref h0_11, .int 0, .int 0, .int 0, .int 0, .long 0, .int (-1), .int 0, .int 0, .ref h0_20, .int 0, .ref h0_22, .ref h0_23, .int 0, .ref h0_25, .ref h0_26, .int 0, .int 0, .ref h0_29, .ref h0_30, .ref h0_31, .ref h0_32, .int 0, .long 0, .long 0, .long 0, .long 0, .int 0, .ref h0_39, .ref h0_40, .int 0, .ref h0_42, .int 0, .ref h0_44, .ref h0_45, .int 0, .int 0, .int 0, .int 0, .int 0, .int 0]))])) 0 0 (va_A [(h0, .inr (12, [.int 0, .int 0, .ref h0_2, .ref h0_3, .ref h0_4, .ref h0_5, .int 0, .int 0, .int 0, .ref h0_9, .ref h0_10, .ref h0_11, .int 0, .int 0, .int 0, .int 0, .long 0, .int (-1), .int 0, .int 0, .ref h0_20, .int 0, .ref h0_22, .ref h0_23, .int 0, .ref h0_25, .ref h0_26, .int 0, .int 0, .ref h0_29, .ref h0_30, .ref h0_31, .ref h0_32, .int 0, .long 0, .long 0, .long 0, .long 0, .int 0, .ref h0_39, .ref h0_40, .int 0, .ref h0_42, .int 0, .ref h0_44, .ref h0_45, .int 0, .int 0, .int 0, .int 0, .int 0, .int 0]))] sz) := by
  refine metW (cc := cX12_told) (maxL := 2) (ret := (some .int)) (by decide) rfl (Nat.le_of_ble_eq_true rfl) ?_
  intro p e s m below meth c A ls hx hb hr hml hown hts hlocks hin hKK hP hD hA hS hl
  have hK := hKK.1
  have hown : s.vm.findClass RX12 = some m.cls := hown
  have hl : lv_has ls 2 [(0, .ref h0), (1, .int n1)] := hl
  have hP : va_P G vwCl [(h0, .inr (12, [.int 0, .int 0, .ref h0_2, .ref h0_3, .ref h0_4, .ref h0_5, .int 0, .int 0, .int 0, .ref h0_9, .ref h0_10, .ref h0_11, .int 0, .int 0, .int 0, .int 0, .long 0, .int (-1), .int 0, .int 0, .ref h0_20, .int 0, .ref h0_22, .ref h0_23, .int 0, .ref h0_25, .ref h0_26, .int 0, .int 0, .ref h0_29, .ref h0_30, .ref h0_31, .ref h0_32, .int 0, .long 0, .long 0, .long 0, .long 0, .int 0, .ref h0_39, .ref h0_40, .int 0, .ref h0_42, .int 0, .ref h0_44, .ref h0_45, .int 0, .int 0, .int 0, .int 0, .int 0, .int 0]))] s.heap := hP
  have hD : va_D A [(h0, .inr (12, [.int 0, .int 0, .ref h0_2, .ref h0_3, .ref h0_4, .ref h0_5, .int 0, .int 0, .int 0, .ref h0_9, .ref h0_10, .ref h0_11, .int 0, .int 0, .int 0, .int 0, .long 0, .int (-1), .int 0, .int 0, .ref h0_20, .int 0, .ref h0_22, .ref h0_23, .int 0, .ref h0_25, .ref h0_26, .int 0, .int 0, .ref h0_29, .ref h0_30, .ref h0_31, .ref h0_32, .int 0, .long 0, .long 0, .long 0, .long 0, .int 0, .ref h0_39, .ref h0_40, .int 0, .ref h0_42, .int 0, .ref h0_44, .ref h0_45, .int 0, .int 0, .int 0, .int 0, .int 0, .int 0]))] := hD
  refine lv_aload_n hx hb dX12_told_0 rfl (lv_at hl 0 rfl) ?_
  refine lv_iload_n hx hb dX12_told_1 rfl (lv_at hl 1 rfl) ?_
  refine lv_if_ge (tgt := 9) hx hb dX12_told_2 (by decide) (fun c1 => ?_) (fun c1 => ?_)
  · have f2 : (0 : Int) ≤ n1.toInt := Int32.le_iff_toInt_le.mp c1
    refine lv_iconst (v := 0) hx hb dX12_told_9 (by decide) ?_
    refine va_put (D := G) (ci := 12) (v := .int 0) (ty := .int) (C := RX12) (T := TX12) (N := 52) hx hb hts cm_X12_told_v4_0 tyX12 tyX12_ok nmX12 hown hK hP hD hS 0 rfl rfl 1 (by decide) (hts _ (dmem (j := 0) rfl)) (fun _ h9 => h9) rfl (by decide +kernel) rfl rfl (Nat.le_of_ble_eq_true rfl) dX12_told_10 (fun H locs => setW (ws' := [(h0, .inr (12, [.int 0, .int 0, .ref h0_2, .ref h0_3, .ref h0_4, .ref h0_5, .int 0, .int 0, .int 0, .ref h0_9, .ref h0_10, .ref h0_11, .int 0, .int 0, .int 0, .int 0, .long 0, .int (-1), .int 0, .int 0, .ref h0_20, .int 0, .ref h0_22, .ref h0_23, .int 0, .ref h0_25, .ref h0_26, .int 0, .int 0, .ref h0_29, .ref h0_30, .ref h0_31, .ref h0_32, .int 0, .long 0, .long 0, .long 0, .long 0, .int 0, .ref h0_39, .ref h0_40, .int 0, .ref h0_42, .int 0, .ref h0_44, .ref h0_45, .int 0, .int 0, .int 0, .int 0, .int 0, .int 0]))]) rfl (fun hP hD hS => ?_))
    refine lv_iload_n hx hb dX12_told_13 rfl (lv_at hl 1 rfl) ?_
    exact retI hx hb hr hlocks ⟨_, rfl, rfl⟩ hP hD hS (fun _ => 0) (fun _ _ => 0) [0] (by decide +kernel) rfl dX12_told_14
  · have f3 : ¬ ((0 : Int) ≤ n1.toInt) := fun h => c1 (Int32.le_iff_toInt_le.mpr h)
    exfalso; omega
def d_X12_give : List Cond := [Cond.fieldLink RX12 82 "NoRentModel" "thrown" "I", Cond.constantLong RX12 122 (10000000), Cond.methodLink RX12 90 yX12_in, Cond.static yX12_in, Cond.initialized RX12, Cond.fieldLink RX12 8 "NoRentModel" "row" "[I", Cond.constant RX12 124 (100000000), Cond.methodLink RX12 94 yX12_told, Cond.instanceMethod yX12_told, Cond.selects RX12 yX12_told yX12_told]
def v_X12_give : List Cond := Cond.code yX12_give cX12_give 2 (some .int) :: (d_X12_give ++ (wsX120 ++ (v_X12_in ++ (v_X12_told_v4 ++ (v_X12_told_v2 ++ ([] : List Cond))))))
theorem cm_X12_give_0 : ∀ w ∈ wsX120, w ∈ v_X12_give := fun _ h => List.mem_cons_of_mem _ (List.mem_append_right _ (List.mem_append_left _ h))
theorem cm_X12_give_1 : ∀ w ∈ v_X12_in, w ∈ v_X12_give := fun _ h => List.mem_cons_of_mem _ (List.mem_append_right _ (List.mem_append_right _ (List.mem_append_left _ h)))
theorem cm_X12_give_2 : ∀ w ∈ v_X12_told_v4, w ∈ v_X12_give := fun _ h => List.mem_cons_of_mem _ (List.mem_append_right _ (List.mem_append_right _ (List.mem_append_right _ (List.mem_append_left _ h))))
theorem cm_X12_give_3 : ∀ w ∈ v_X12_told_v2, w ∈ v_X12_give := fun _ h => List.mem_cons_of_mem _ (List.mem_append_right _ (List.mem_append_right _ (List.mem_append_right _ (List.mem_append_right _ (List.mem_append_left _ h)))))
theorem gd_X12_give : Gd v_X12_give := gd_mk (by decide +kernel) (gd_app gd_X12 (gd_app gd_X12_in (gd_app gd_X12_told_v4 (gd_app gd_X12_told_v2 gd_nil))))
set_option maxRecDepth 20000 in
theorem gv_X12_give_90_X12_in : GoodIn v_X12_give (va_wsS RX12 90 yX12_in v_X12_in) := goodIn_app (goodIn_of _ (by decide +kernel)) (gi cm_X12_give_1 gd_X12_in)
set_option maxRecDepth 20000 in
theorem gv_X12_give_94_X12_told_v4 : GoodIn v_X12_give (wsV RX12 94 RX12 yX12_told v_X12_told_v4) := goodIn_app (goodIn_of _ (by decide +kernel)) (gi cm_X12_give_2 gd_X12_told_v4)
set_option maxRecDepth 20000 in
theorem gv_X12_give_94_X12_told_v2 : GoodIn v_X12_give (wsV RX12 94 RX12 yX12_told v_X12_told_v2) := goodIn_app (goodIn_of _ (by decide +kernel)) (gi cm_X12_give_3 gd_X12_told_v2)
set_option maxHeartbeats 4000000 in
set_option maxRecDepth 100000 in
theorem c_X12_give (l : Launch) (G : va_G) (cI cJ cZ cD cR cT : ClassId) (h0 : Nat) (u1 : Int32) (h0_2 : Nat) (h0_3 : Nat) (h0_4 : Nat) (h0_5 : Nat) (h0_9 : Nat) (h0_10 : Nat) (h0_11 : Nat) (h0_20 : Nat) (h0_22 : Nat) (h0_23 : Nat) (h0_25 : Nat) (h0_26 : Nat) (h0_29 : Nat) (h0_30 : Nat) (h0_31 : Nat) (h0_32 : Nat) (h0_39 : Nat) (h0_40 : Nat) (h0_42 : Nat) (h0_44 : Nat) (h0_45 : Nat) (sz : Nat) : Met l yX12_give v_X12_give ({ frames := 2, cells := 0, slots := 0, locals := 65 }) (va_Pc [.ref h0, .int u1] (PreW G (tys6 cI cJ cZ cD cR cT) [(h0, .inr (12, [.int 0, .int 0, .ref h0_2, .ref h0_3, .ref h0_4, .ref h0_5, .int 0, .int 0, .int 0, .ref h0_9, .ref h0_10, .ref h0_11, .int 0, .int 0, .int 0, .int 0, .long 0, .int (-1), .int 0, .int 0, .ref h0_20, .int 0, .ref h0_22, .ref h0_23, .int 0, .ref h0_25, .ref h0_26, .int 0, .int 0, .ref h0_29, .ref h0_30, .ref h0_31, .ref h0_32, .int 0, .long 0, .long 0, .long 0, .long 0, .int 0, .ref h0_39, .ref h0_40, .int 0, .ref h0_42, .int 0, .ref h0_44, .ref h0_45, .int 0, .int 0, .int 0, .int 0, .int 0, .int 0])), (h0_2, .inl (cI, 35942, .inl mrow))] sz)) (QW (RI (fun r => r = F_give u1)) G (va_A [(h0, .inr (12, [.int 0, .int 0, .ref h0_2, .ref h0_3, .ref h0_4, .ref h0_5, .int 0, .int 0, .int 0, .ref h0_9, .ref h0_10, .ref h0_11, .int 0, .int 0, .int 0, .int 0, .long 0, .int (-1), .int 0, .int 0, .ref h0_20, .int 0, .ref h0_22, .ref h0_23, .int 0, .ref h0_25, .ref h0_26, .int 0, .int 0, .ref h0_29, .ref h0_30, .ref h0_31, .ref h0_32, .int 0, .long 0, .long 0, .long 0, .long 0, .int 0, .ref h0_39, .ref h0_40, .int 0, .ref h0_42, .int 0, .ref h0_44, .ref h0_45, .int 0, .int 0, .int 0, .int 0, .int 0, .int 0])), (h0_2, .inl (cI, 35942, .inl mrow))] sz) (fun q g => [])) 0 0 (va_A [(h0, .inr (12, [.int 0, .int 0, .ref h0_2, .ref h0_3, .ref h0_4, .ref h0_5, .int 0, .int 0, .int 0, .ref h0_9, .ref h0_10, .ref h0_11, .int 0, .int 0, .int 0, .int 0, .long 0, .int (-1), .int 0, .int 0, .ref h0_20, .int 0, .ref h0_22, .ref h0_23, .int 0, .ref h0_25, .ref h0_26, .int 0, .int 0, .ref h0_29, .ref h0_30, .ref h0_31, .ref h0_32, .int 0, .long 0, .long 0, .long 0, .long 0, .int 0, .ref h0_39, .ref h0_40, .int 0, .ref h0_42, .int 0, .ref h0_44, .ref h0_45, .int 0, .int 0, .int 0, .int 0, .int 0, .int 0])), (h0_2, .inl (cI, 35942, .inl mrow))] sz) := by
  refine metW (cc := cX12_give) (maxL := 2) (ret := (some .int)) (by decide) rfl (Nat.le_of_ble_eq_true rfl) ?_
  intro p e s m below meth c A ls hx hb hr hml hown hts hlocks hin hKK hP hD hA hS hl
  have hK := hKK.1
  have hown : s.vm.findClass RX12 = some m.cls := hown
  have hl : lv_has ls 2 [(0, .ref h0), (1, .int u1)] := hl
  have hP : va_P G vwCl [(h0, .inr (12, [.int 0, .int 0, .ref h0_2, .ref h0_3, .ref h0_4, .ref h0_5, .int 0, .int 0, .int 0, .ref h0_9, .ref h0_10, .ref h0_11, .int 0, .int 0, .int 0, .int 0, .long 0, .int (-1), .int 0, .int 0, .ref h0_20, .int 0, .ref h0_22, .ref h0_23, .int 0, .ref h0_25, .ref h0_26, .int 0, .int 0, .ref h0_29, .ref h0_30, .ref h0_31, .ref h0_32, .int 0, .long 0, .long 0, .long 0, .long 0, .int 0, .ref h0_39, .ref h0_40, .int 0, .ref h0_42, .int 0, .ref h0_44, .ref h0_45, .int 0, .int 0, .int 0, .int 0, .int 0, .int 0])), (h0_2, .inl (cI, 35942, .inl mrow))] s.heap := hP
  have hD : va_D A [(h0, .inr (12, [.int 0, .int 0, .ref h0_2, .ref h0_3, .ref h0_4, .ref h0_5, .int 0, .int 0, .int 0, .ref h0_9, .ref h0_10, .ref h0_11, .int 0, .int 0, .int 0, .int 0, .long 0, .int (-1), .int 0, .int 0, .ref h0_20, .int 0, .ref h0_22, .ref h0_23, .int 0, .ref h0_25, .ref h0_26, .int 0, .int 0, .ref h0_29, .ref h0_30, .ref h0_31, .ref h0_32, .int 0, .long 0, .long 0, .long 0, .long 0, .int 0, .ref h0_39, .ref h0_40, .int 0, .ref h0_42, .int 0, .ref h0_44, .ref h0_45, .int 0, .int 0, .int 0, .int 0, .int 0, .int 0])), (h0_2, .inl (cI, 35942, .inl mrow))] := hD
  refine lv_aload_n hx hb dX12_give_0 rfl (lv_at hl 0 rfl) ?_
  refine lv_iconst (v := 0) hx hb dX12_give_1 (by decide) ?_
  refine va_put (D := G) (ci := 12) (v := .int 0) (ty := .int) (C := RX12) (T := TX12) (N := 52) hx hb hts cm_X12_give_0 tyX12 tyX12_ok nmX12 hown hK hP hD hS 0 rfl rfl 0 (by decide) (hts _ (dmem (j := 0) rfl)) (fun _ h9 => h9) rfl (by decide +kernel) rfl rfl (Nat.le_of_ble_eq_true rfl) dX12_give_2 (fun H locs => setW (ws' := [(h0, .inr (12, [.int 0, .int 0, .ref h0_2, .ref h0_3, .ref h0_4, .ref h0_5, .int 0, .int 0, .int 0, .ref h0_9, .ref h0_10, .ref h0_11, .int 0, .int 0, .int 0, .int 0, .long 0, .int (-1), .int 0, .int 0, .ref h0_20, .int 0, .ref h0_22, .ref h0_23, .int 0, .ref h0_25, .ref h0_26, .int 0, .int 0, .ref h0_29, .ref h0_30, .ref h0_31, .ref h0_32, .int 0, .long 0, .long 0, .long 0, .long 0, .int 0, .ref h0_39, .ref h0_40, .int 0, .ref h0_42, .int 0, .ref h0_44, .ref h0_45, .int 0, .int 0, .int 0, .int 0, .int 0, .int 0])), (h0_2, .inl (cI, 35942, .inl mrow))]) rfl (fun hP hD hS => ?_))
  refine lv_iload_n hx hb dX12_give_5 rfl (lv_at hl 1 rfl) ?_
  refine lv_i2l hx hb dX12_give_6 rfl ?_
  refine lv_lconst (v := 0) hx hb dX12_give_7 (by decide) ?_
  refine lv_ldc2 (v := 10000000) hx hb hown (hts _ (dmem (j := 1) rfl)) dX12_give_8 ?_
  refine goS (As := [.long (u1).toInt64, .long 0, .long 10000000]) (rest := []) (wr := [(h0, .inr (12, [.int 0, .int 0, .ref h0_2, .ref h0_3, .ref h0_4, .ref h0_5, .int 0, .int 0, .int 0, .ref h0_9, .ref h0_10, .ref h0_11, .int 0, .int 0, .int 0, .int 0, .long 0, .int (-1), .int 0, .int 0, .ref h0_20, .int 0, .ref h0_22, .ref h0_23, .int 0, .ref h0_25, .ref h0_26, .int 0, .int 0, .ref h0_29, .ref h0_30, .ref h0_31, .ref h0_32, .int 0, .long 0, .long 0, .long 0, .long 0, .int 0, .ref h0_39, .ref h0_40, .int 0, .ref h0_42, .int 0, .ref h0_44, .ref h0_45, .int 0, .int 0, .int 0, .int 0, .int 0, .int 0])), (h0_2, .inl (cI, 35942, .inl mrow))]) ⟨hx, hb, hml, hown, hts⟩ (c_X12_in l G cI cJ cZ cD cR cT (u1).toInt64 0 10000000 u1.toInt 0 10000000 _ (Int32.toInt_toInt64 u1) (by decide) (by decide)) (va_cwS 3 hts gv_X12_give_90_X12_in rfl rfl rfl (by decide +kernel) ⟨Nat.le_of_ble_eq_true rfl, Nat.le_of_ble_eq_true rfl⟩) hKK hP hD hS hA [] [0, 1] rfl rfl (by decide +kernel) (by decide +kernel) (by decide +kernel) rfl hl.1 rfl (lv_room (Nat.le_of_ble_eq_true rfl)) dX12_give_11 ⟨Nat.le_of_ble_eq_true rfl, Nat.le_of_ble_eq_true rfl⟩ (fun v2 q1 gq1 H locs hv2 => appW (ws' := [(h0, .inr (12, [.int 0, .int 0, .ref h0_2, .ref h0_3, .ref h0_4, .ref h0_5, .int 0, .int 0, .int 0, .ref h0_9, .ref h0_10, .ref h0_11, .int 0, .int 0, .int 0, .int 0, .long 0, .int (-1), .int 0, .int 0, .ref h0_20, .int 0, .ref h0_22, .ref h0_23, .int 0, .ref h0_25, .ref h0_26, .int 0, .int 0, .ref h0_29, .ref h0_30, .ref h0_31, .ref h0_32, .int 0, .long 0, .long 0, .long 0, .long 0, .int 0, .ref h0_39, .ref h0_40, .int 0, .ref h0_42, .int 0, .ref h0_44, .ref h0_45, .int 0, .int 0, .int 0, .int 0, .int 0, .int 0])), (h0_2, .inl (cI, 35942, .inl mrow))]) rfl (fun hP hD hS => ?_))
  obtain ⟨_, rfl, h4⟩ := hv2
  rcases h4 with ⟨rfl, h4⟩ | ⟨rfl, h4⟩
  · refine lv_if_ne (tgt := 23) hx hb dX12_give_14 (by decide) (fun _ => ?_) (fun c => absurd c (by decide))
    refine lv_aload_n hx hb dX12_give_23 rfl (lv_at hl 0 rfl) ?_
    refine va_get (D := G) (ci := 12) (v := .ref h0_2) (C := RX12) (T := TX12) (N := 52) hx hb hts cm_X12_give_0 hown hK hP 0 rfl rfl 2 (by decide) (hts _ (dmem (j := 5) rfl)) (fun _ h9 => h9) rfl dX12_give_24 ?_
    refine lv_bipush (v := 9) hx hb dX12_give_27 (by decide) ?_
    refine lv_aload_n hx hb dX12_give_29 rfl (lv_at hl 0 rfl) ?_
    refine va_get (D := G) (ci := 12) (v := .ref h0_2) (C := RX12) (T := TX12) (N := 52) hx hb hts cm_X12_give_0 hown hK hP 0 rfl rfl 2 (by decide) (hts _ (dmem (j := 5) rfl)) (fun _ h9 => h9) rfl dX12_give_30 ?_
    refine lv_bipush (v := 9) hx hb dX12_give_33 (by decide) ?_
    refine va_iald hx hb hK hP 1 0 rfl rfl (vp_in_iff.mpr (by decide)) dX12_give_35 ?_
    refine lv_topi (fun x5 ex5 => ?_)
    obtain rfl : 0 = x5 := (ex5.trans (by first | rfl | decide | (simp [upd, mrow]; done))).symm
    refine lv_iload_n hx hb dX12_give_36 rfl (lv_at hl 1 rfl) ?_
    refine lv_iadd hx hb dX12_give_37 ?_
    refine lv_topi (fun x6 ex6 => ?_)
    obtain rfl : u1 = x6 := (ex6.trans (by simp)).symm
    refine lv_ldc (v := 100000000) hx hb hown (hts _ (dmem (j := 6) rfl)) dX12_give_38 ?_
    refine lv_icmp_le (tgt := 48) hx hb dX12_give_40 (by decide) (fun c7 => ?_) (fun c7 => ?_)
    · have f8 : (u1.toInt : Int) ≤ 100000000 := Int32.le_iff_toInt_le.mp c7
      refine lv_aload_n hx hb dX12_give_48 rfl (lv_at hl 0 rfl) ?_
      refine va_get (D := G) (ci := 12) (v := .ref h0_2) (C := RX12) (T := TX12) (N := 52) hx hb hts cm_X12_give_0 hown hK hP 0 rfl rfl 2 (by decide) (hts _ (dmem (j := 5) rfl)) (fun _ h9 => h9) rfl dX12_give_49 ?_
      refine lv_bipush (v := 9) hx hb dX12_give_52 (by decide) ?_
      refine va_iald hx hb hK hP 1 0 rfl rfl (vp_in_iff.mpr (by decide)) dX12_give_54 ?_
      refine lv_topi (fun x9 ex9 => ?_)
      obtain rfl : 0 = x9 := (ex9.trans (by first | rfl | decide | (simp [upd, mrow]; done))).symm
      refine lv_iload_n hx hb dX12_give_55 rfl (lv_at hl 1 rfl) ?_
      refine lv_iadd hx hb dX12_give_56 ?_
      refine lv_topi (fun x10 ex10 => ?_)
      obtain rfl : u1 = x10 := (ex10.trans (by simp)).symm
      refine va_iast hx hb hK hP hD hS 1 0 rfl rfl (vp_in_iff.mpr (by decide)) dX12_give_57 (fun H locs => setW (ws' := [(h0, .inr (12, [.int 0, .int 0, .ref h0_2, .ref h0_3, .ref h0_4, .ref h0_5, .int 0, .int 0, .int 0, .ref h0_9, .ref h0_10, .ref h0_11, .int 0, .int 0, .int 0, .int 0, .long 0, .int (-1), .int 0, .int 0, .ref h0_20, .int 0, .ref h0_22, .ref h0_23, .int 0, .ref h0_25, .ref h0_26, .int 0, .int 0, .ref h0_29, .ref h0_30, .ref h0_31, .ref h0_32, .int 0, .long 0, .long 0, .long 0, .long 0, .int 0, .ref h0_39, .ref h0_40, .int 0, .ref h0_42, .int 0, .ref h0_44, .ref h0_45, .int 0, .int 0, .int 0, .int 0, .int 0, .int 0])), (h0_2, .inl (cI, 35942, .inl (upd mrow 9 u1)))]) rfl (fun hP hD hS => ?_))
      refine lv_aload_n hx hb dX12_give_58 rfl (lv_at hl 0 rfl) ?_
      refine lv_aload_n hx hb dX12_give_59 rfl (lv_at hl 0 rfl) ?_
      refine va_get (D := G) (ci := 12) (v := .ref h0_2) (C := RX12) (T := TX12) (N := 52) hx hb hts cm_X12_give_0 hown hK hP 0 rfl rfl 2 (by decide) (hts _ (dmem (j := 5) rfl)) (fun _ h9 => h9) rfl dX12_give_60 ?_
      refine lv_bipush (v := 9) hx hb dX12_give_63 (by decide) ?_
      refine va_iald hx hb hK hP 1 0 rfl rfl (vp_in_iff.mpr (by decide)) dX12_give_65 ?_
      refine lv_topi (fun x11 ex11 => ?_)
      obtain rfl : u1 = x11 := (ex11.trans (by first | rfl | decide | (simp [upd, mrow]; done))).symm
      refine goV (As := [.int u1]) (rest := []) (wr := [(h0_2, .inl (cI, 35942, .inl (upd mrow 9 u1)))]) ⟨hx, hb, hml, hown, hts⟩ (c_X12_told_v4 l G cI cJ cZ cD cR cT h0 u1 h0_2 h0_3 h0_4 h0_5 h0_9 h0_10 h0_11 h0_20 h0_22 h0_23 h0_25 h0_26 h0_29 h0_30 h0_31 h0_32 h0_39 h0_40 h0_42 h0_44 h0_45 _ (by first | omega | decide)) (cwV 1 hts gv_X12_give_94_X12_told_v4 rfl rfl rfl (by decide +kernel) ⟨Nat.le_of_ble_eq_true rfl, Nat.le_of_ble_eq_true rfl⟩) 0 rfl rfl rfl hKK hP hD hS hA [0] [1] rfl rfl (by decide +kernel) (by decide +kernel) (by decide +kernel) rfl hl.1 rfl (lv_room (Nat.le_of_ble_eq_true rfl)) dX12_give_66 ⟨Nat.le_of_ble_eq_true rfl, Nat.le_of_ble_eq_true rfl⟩ (fun v13 q12 gq12 H locs hv13 => appW (ws' := [(h0_2, .inl (cI, 35942, .inl (upd mrow 9 u1))), (h0, .inr (12, [.int 0, .int 0, .ref h0_2, .ref h0_3, .ref h0_4, .ref h0_5, .int 0, .int 0, .int 0, .ref h0_9, .ref h0_10, .ref h0_11, .int 0, .int 0, .int 0, .int 0, .long 0, .int (-1), .int 0, .int 0, .ref h0_20, .int 0, .ref h0_22, .ref h0_23, .int 0, .ref h0_25, .ref h0_26, .int 0, .int 0, .ref h0_29, .ref h0_30, .ref h0_31, .ref h0_32, .int 0, .long 0, .long 0, .long 0, .long 0, .int 0, .ref h0_39, .ref h0_40, .int 0, .ref h0_42, .int 0, .ref h0_44, .ref h0_45, .int 0, .int 0, .int 0, .int 0, .int 0, .int 0]))]) rfl (fun hP hD hS => ?_))
      obtain ⟨_, rfl, rfl⟩ := hv13
      exact retI hx hb hr hlocks ⟨_, rfl, by have hz0 : (0 : Int32).toInt = 0 := rfl; have hz1 : (1 : Int32).toInt = 1 := rfl; unfold F_give; (repeat' split) <;> first | rfl | (exfalso; omega)⟩ hP hD hS (fun _ => 0) (fun _ _ => 0) [] (by decide +kernel) rfl dX12_give_69
    · have f15 : ¬ ((u1.toInt : Int) ≤ 100000000) := fun h => c7 (Int32.le_iff_toInt_le.mpr h)
      exfalso; omega
  · refine lv_if_ne (tgt := 23) hx hb dX12_give_14 (by decide) (fun c => absurd c (by decide)) (fun _ => ?_)
    refine lv_aload_n hx hb dX12_give_17 rfl (lv_at hl 0 rfl) ?_
    refine lv_iconst (v := (-1)) hx hb dX12_give_18 (by decide) ?_
    refine goV (As := [.int (-1)]) (rest := []) (wr := [(h0_2, .inl (cI, 35942, .inl mrow))]) ⟨hx, hb, hml, hown, hts⟩ (c_X12_told_v2 l G cI cJ cZ cD cR cT h0 h0_2 h0_3 h0_4 h0_5 h0_9 h0_10 h0_11 h0_20 h0_22 h0_23 h0_25 h0_26 h0_29 h0_30 h0_31 h0_32 h0_39 h0_40 h0_42 h0_44 h0_45 _) (cwV 1 hts gv_X12_give_94_X12_told_v2 rfl rfl rfl (by decide +kernel) ⟨Nat.le_of_ble_eq_true rfl, Nat.le_of_ble_eq_true rfl⟩) 0 rfl rfl rfl hKK hP hD hS hA [0] [1] rfl rfl (by decide +kernel) (by decide +kernel) (by decide +kernel) rfl hl.1 rfl (lv_room (Nat.le_of_ble_eq_true rfl)) dX12_give_19 ⟨Nat.le_of_ble_eq_true rfl, Nat.le_of_ble_eq_true rfl⟩ (fun v17 q16 gq16 H locs hv17 => appW (ws' := [(h0_2, .inl (cI, 35942, .inl mrow)), (h0, .inr (12, [.int 0, .int (-1), .ref h0_2, .ref h0_3, .ref h0_4, .ref h0_5, .int 0, .int 0, .int 0, .ref h0_9, .ref h0_10, .ref h0_11, .int 0, .int 0, .int 0, .int 0, .long 0, .int (-1), .int 0, .int 0, .ref h0_20, .int 0, .ref h0_22, .ref h0_23, .int 0, .ref h0_25, .ref h0_26, .int 0, .int 0, .ref h0_29, .ref h0_30, .ref h0_31, .ref h0_32, .int 0, .long 0, .long 0, .long 0, .long 0, .int 0, .ref h0_39, .ref h0_40, .int 0, .ref h0_42, .int 0, .ref h0_44, .ref h0_45, .int 0, .int 0, .int 0, .int 0, .int 0, .int 0]))]) rfl (fun hP hD hS => ?_))
    obtain ⟨_, rfl, rfl⟩ := hv17
    exact retI hx hb hr hlocks ⟨_, rfl, by have hz0 : (0 : Int32).toInt = 0 := rfl; have hz1 : (1 : Int32).toInt = 1 := rfl; unfold F_give; (repeat' split) <;> first | rfl | (exfalso; omega)⟩ hP hD hS (fun _ => 0) (fun _ _ => 0) [] (by decide +kernel) rfl dX12_give_22
def d_X12_estateAt_v1 : List Cond := []
def v_X12_estateAt_v1 : List Cond := Cond.code yX12_estateAt cX12_estateAt 1 (some .int) :: (d_X12_estateAt_v1 ++ ([] : List Cond))
theorem gd_X12_estateAt_v1 : Gd v_X12_estateAt_v1 := gd_mk (by decide +kernel) gd_nil
set_option maxHeartbeats 4000000 in
set_option maxRecDepth 100000 in
theorem c_X12_estateAt_v1 (l : Launch) (G : va_G) (cI cJ cZ cD cR cT : ClassId) (sz : Nat) : Met l yX12_estateAt v_X12_estateAt_v1 ({ frames := 1, cells := 0, slots := 0, locals := 40 }) (va_Pc [.int 0] (PreW G (tys6 cI cJ cZ cD cR cT) [] sz)) (QW (RI (fun r => r = 340)) G (va_A [] sz) (fun q g => [])) 0 0 (va_A [] sz) := by
  refine metW (cc := cX12_estateAt) (maxL := 1) (ret := (some .int)) (by decide) rfl (Nat.le_of_ble_eq_true rfl) ?_
  intro p e s m below meth c A ls hx hb hr hml hown hts hlocks hin hKK hP hD hA hS hl
  have hK := hKK.1
  have hown : s.vm.findClass RX12 = some m.cls := hown
  have hl : lv_has ls 1 [(0, .int 0)] := hl
  have hP : va_P G vwCl [] s.heap := hP
  have hD : va_D A [] := hD
  refine lv_sipush (v := 340) hx hb dX12_estateAt_0 (by decide) ?_
  refine lv_iconst (v := 3) hx hb dX12_estateAt_3 (by decide) ?_
  refine lv_iload_n hx hb dX12_estateAt_4 rfl (lv_at hl 0 rfl) ?_
  refine lv_imul hx hb dX12_estateAt_5 ?_
  refine lv_topi (fun x1 ex1 => ?_)
  obtain rfl : 0 = x1 := (ex1.trans (by decide)).symm
  refine lv_iadd hx hb dX12_estateAt_6 ?_
  refine lv_topi (fun x2 ex2 => ?_)
  obtain rfl : 340 = x2 := (ex2.trans (by decide)).symm
  exact retI hx hb hr hlocks ⟨_, rfl, rfl⟩ hP hD hS (fun _ => 0) (fun _ _ => 0) [] (by decide +kernel) rfl dX12_estateAt_7
def d_X12_estate : List Cond := [Cond.fieldLink RX12 82 "NoRentModel" "thrown" "I", Cond.constantLong RX12 122 (10000000), Cond.methodLink RX12 90 yX12_in, Cond.static yX12_in, Cond.initialized RX12, Cond.constantLong RX12 100 (1000000), Cond.fieldLink RX12 8 "NoRentModel" "row" "[I", Cond.methodLink RX12 125 yX12_estateAt, Cond.static yX12_estateAt, Cond.methodLink RX12 94 yX12_told, Cond.instanceMethod yX12_told, Cond.selects RX12 yX12_told yX12_told]
def v_X12_estate : List Cond := Cond.code yX12_estate cX12_estate 4 (some .int) :: (d_X12_estate ++ (wsX120 ++ (v_X12_in ++ (v_X12_estateAt_v1 ++ (v_X12_told_v1 ++ (v_X12_told_v2 ++ ([] : List Cond)))))))
theorem cm_X12_estate_0 : ∀ w ∈ wsX120, w ∈ v_X12_estate := fun _ h => List.mem_cons_of_mem _ (List.mem_append_right _ (List.mem_append_left _ h))
theorem cm_X12_estate_1 : ∀ w ∈ v_X12_in, w ∈ v_X12_estate := fun _ h => List.mem_cons_of_mem _ (List.mem_append_right _ (List.mem_append_right _ (List.mem_append_left _ h)))
theorem cm_X12_estate_2 : ∀ w ∈ v_X12_estateAt_v1, w ∈ v_X12_estate := fun _ h => List.mem_cons_of_mem _ (List.mem_append_right _ (List.mem_append_right _ (List.mem_append_right _ (List.mem_append_left _ h))))
theorem cm_X12_estate_3 : ∀ w ∈ v_X12_told_v1, w ∈ v_X12_estate := fun _ h => List.mem_cons_of_mem _ (List.mem_append_right _ (List.mem_append_right _ (List.mem_append_right _ (List.mem_append_right _ (List.mem_append_left _ h)))))
theorem cm_X12_estate_4 : ∀ w ∈ v_X12_told_v2, w ∈ v_X12_estate := fun _ h => List.mem_cons_of_mem _ (List.mem_append_right _ (List.mem_append_right _ (List.mem_append_right _ (List.mem_append_right _ (List.mem_append_right _ (List.mem_append_left _ h))))))
theorem gd_X12_estate : Gd v_X12_estate := gd_mk (by decide +kernel) (gd_app gd_X12 (gd_app gd_X12_in (gd_app gd_X12_estateAt_v1 (gd_app gd_X12_told_v1 (gd_app gd_X12_told_v2 gd_nil)))))
set_option maxRecDepth 20000 in
theorem gv_X12_estate_90_X12_in : GoodIn v_X12_estate (va_wsS RX12 90 yX12_in v_X12_in) := goodIn_app (goodIn_of _ (by decide +kernel)) (gi cm_X12_estate_1 gd_X12_in)
set_option maxRecDepth 20000 in
theorem gv_X12_estate_125_X12_estateAt_v1 : GoodIn v_X12_estate (va_wsS RX12 125 yX12_estateAt v_X12_estateAt_v1) := goodIn_app (goodIn_of _ (by decide +kernel)) (gi cm_X12_estate_2 gd_X12_estateAt_v1)
set_option maxRecDepth 20000 in
theorem gv_X12_estate_94_X12_told_v1 : GoodIn v_X12_estate (wsV RX12 94 RX12 yX12_told v_X12_told_v1) := goodIn_app (goodIn_of _ (by decide +kernel)) (gi cm_X12_estate_3 gd_X12_told_v1)
set_option maxRecDepth 20000 in
theorem gv_X12_estate_94_X12_told_v2 : GoodIn v_X12_estate (wsV RX12 94 RX12 yX12_told v_X12_told_v2) := goodIn_app (goodIn_of _ (by decide +kernel)) (gi cm_X12_estate_4 gd_X12_told_v2)
set_option maxHeartbeats 4000000 in
set_option maxRecDepth 100000 in
theorem c_X12_estate (l : Launch) (G : va_G) (cI cJ cZ cD cR cT : ClassId) (h0 : Nat) (u1 : Int32) (u2 : Int32) (h0_2 : Nat) (h0_3 : Nat) (h0_4 : Nat) (h0_5 : Nat) (h0_9 : Nat) (h0_10 : Nat) (h0_11 : Nat) (h0_20 : Nat) (h0_22 : Nat) (h0_23 : Nat) (h0_25 : Nat) (h0_26 : Nat) (h0_29 : Nat) (h0_30 : Nat) (h0_31 : Nat) (h0_32 : Nat) (h0_39 : Nat) (h0_40 : Nat) (h0_42 : Nat) (h0_44 : Nat) (h0_45 : Nat) (sz : Nat) : Met l yX12_estate v_X12_estate ({ frames := 2, cells := 0, slots := 0, locals := 65 }) (va_Pc [.ref h0, .int u1, .int u2] (PreW G (tys6 cI cJ cZ cD cR cT) [(h0, .inr (12, [.int 0, .int 0, .ref h0_2, .ref h0_3, .ref h0_4, .ref h0_5, .int 0, .int 0, .int 0, .ref h0_9, .ref h0_10, .ref h0_11, .int 0, .int 0, .int 0, .int 0, .long 0, .int (-1), .int 0, .int 0, .ref h0_20, .int 0, .ref h0_22, .ref h0_23, .int 0, .ref h0_25, .ref h0_26, .int 0, .int 0, .ref h0_29, .ref h0_30, .ref h0_31, .ref h0_32, .int 0, .long 0, .long 0, .long 0, .long 0, .int 0, .ref h0_39, .ref h0_40, .int 0, .ref h0_42, .int 0, .ref h0_44, .ref h0_45, .int 0, .int 0, .int 0, .int 0, .int 0, .int 0])), (h0_2, .inl (cI, 35942, .inl mrow))] sz)) (QW (RI (fun r => r = F_estate u1 u2)) G (va_A [(h0, .inr (12, [.int 0, .int 0, .ref h0_2, .ref h0_3, .ref h0_4, .ref h0_5, .int 0, .int 0, .int 0, .ref h0_9, .ref h0_10, .ref h0_11, .int 0, .int 0, .int 0, .int 0, .long 0, .int (-1), .int 0, .int 0, .ref h0_20, .int 0, .ref h0_22, .ref h0_23, .int 0, .ref h0_25, .ref h0_26, .int 0, .int 0, .ref h0_29, .ref h0_30, .ref h0_31, .ref h0_32, .int 0, .long 0, .long 0, .long 0, .long 0, .int 0, .ref h0_39, .ref h0_40, .int 0, .ref h0_42, .int 0, .ref h0_44, .ref h0_45, .int 0, .int 0, .int 0, .int 0, .int 0, .int 0])), (h0_2, .inl (cI, 35942, .inl mrow))] sz) (fun q g => [])) 0 0 (va_A [(h0, .inr (12, [.int 0, .int 0, .ref h0_2, .ref h0_3, .ref h0_4, .ref h0_5, .int 0, .int 0, .int 0, .ref h0_9, .ref h0_10, .ref h0_11, .int 0, .int 0, .int 0, .int 0, .long 0, .int (-1), .int 0, .int 0, .ref h0_20, .int 0, .ref h0_22, .ref h0_23, .int 0, .ref h0_25, .ref h0_26, .int 0, .int 0, .ref h0_29, .ref h0_30, .ref h0_31, .ref h0_32, .int 0, .long 0, .long 0, .long 0, .long 0, .int 0, .ref h0_39, .ref h0_40, .int 0, .ref h0_42, .int 0, .ref h0_44, .ref h0_45, .int 0, .int 0, .int 0, .int 0, .int 0, .int 0])), (h0_2, .inl (cI, 35942, .inl mrow))] sz) := by
  refine metW (cc := cX12_estate) (maxL := 4) (ret := (some .int)) (by decide) rfl (Nat.le_of_ble_eq_true rfl) ?_
  intro p e s m below meth c A ls hx hb hr hml hown hts hlocks hin hKK hP hD hA hS hl
  have hK := hKK.1
  have hown : s.vm.findClass RX12 = some m.cls := hown
  have hl : lv_has ls 4 [(0, .ref h0), (1, .int u1), (2, .int u2)] := hl
  have hP : va_P G vwCl [(h0, .inr (12, [.int 0, .int 0, .ref h0_2, .ref h0_3, .ref h0_4, .ref h0_5, .int 0, .int 0, .int 0, .ref h0_9, .ref h0_10, .ref h0_11, .int 0, .int 0, .int 0, .int 0, .long 0, .int (-1), .int 0, .int 0, .ref h0_20, .int 0, .ref h0_22, .ref h0_23, .int 0, .ref h0_25, .ref h0_26, .int 0, .int 0, .ref h0_29, .ref h0_30, .ref h0_31, .ref h0_32, .int 0, .long 0, .long 0, .long 0, .long 0, .int 0, .ref h0_39, .ref h0_40, .int 0, .ref h0_42, .int 0, .ref h0_44, .ref h0_45, .int 0, .int 0, .int 0, .int 0, .int 0, .int 0])), (h0_2, .inl (cI, 35942, .inl mrow))] s.heap := hP
  have hD : va_D A [(h0, .inr (12, [.int 0, .int 0, .ref h0_2, .ref h0_3, .ref h0_4, .ref h0_5, .int 0, .int 0, .int 0, .ref h0_9, .ref h0_10, .ref h0_11, .int 0, .int 0, .int 0, .int 0, .long 0, .int (-1), .int 0, .int 0, .ref h0_20, .int 0, .ref h0_22, .ref h0_23, .int 0, .ref h0_25, .ref h0_26, .int 0, .int 0, .ref h0_29, .ref h0_30, .ref h0_31, .ref h0_32, .int 0, .long 0, .long 0, .long 0, .long 0, .int 0, .ref h0_39, .ref h0_40, .int 0, .ref h0_42, .int 0, .ref h0_44, .ref h0_45, .int 0, .int 0, .int 0, .int 0, .int 0, .int 0])), (h0_2, .inl (cI, 35942, .inl mrow))] := hD
  refine lv_aload_n hx hb dX12_estate_0 rfl (lv_at hl 0 rfl) ?_
  refine lv_iconst (v := 0) hx hb dX12_estate_1 (by decide) ?_
  refine va_put (D := G) (ci := 12) (v := .int 0) (ty := .int) (C := RX12) (T := TX12) (N := 52) hx hb hts cm_X12_estate_0 tyX12 tyX12_ok nmX12 hown hK hP hD hS 0 rfl rfl 0 (by decide) (hts _ (dmem (j := 0) rfl)) (fun _ h9 => h9) rfl (by decide +kernel) rfl rfl (Nat.le_of_ble_eq_true rfl) dX12_estate_2 (fun H locs => setW (ws' := [(h0, .inr (12, [.int 0, .int 0, .ref h0_2, .ref h0_3, .ref h0_4, .ref h0_5, .int 0, .int 0, .int 0, .ref h0_9, .ref h0_10, .ref h0_11, .int 0, .int 0, .int 0, .int 0, .long 0, .int (-1), .int 0, .int 0, .ref h0_20, .int 0, .ref h0_22, .ref h0_23, .int 0, .ref h0_25, .ref h0_26, .int 0, .int 0, .ref h0_29, .ref h0_30, .ref h0_31, .ref h0_32, .int 0, .long 0, .long 0, .long 0, .long 0, .int 0, .ref h0_39, .ref h0_40, .int 0, .ref h0_42, .int 0, .ref h0_44, .ref h0_45, .int 0, .int 0, .int 0, .int 0, .int 0, .int 0])), (h0_2, .inl (cI, 35942, .inl mrow))]) rfl (fun hP hD hS => ?_))
  refine lv_iload_n hx hb dX12_estate_5 rfl (lv_at hl 1 rfl) ?_
  refine lv_i2l hx hb dX12_estate_6 rfl ?_
  refine lv_lconst (v := 0) hx hb dX12_estate_7 (by decide) ?_
  refine lv_ldc2 (v := 10000000) hx hb hown (hts _ (dmem (j := 1) rfl)) dX12_estate_8 ?_
  refine goS (As := [.long (u1).toInt64, .long 0, .long 10000000]) (rest := []) (wr := [(h0, .inr (12, [.int 0, .int 0, .ref h0_2, .ref h0_3, .ref h0_4, .ref h0_5, .int 0, .int 0, .int 0, .ref h0_9, .ref h0_10, .ref h0_11, .int 0, .int 0, .int 0, .int 0, .long 0, .int (-1), .int 0, .int 0, .ref h0_20, .int 0, .ref h0_22, .ref h0_23, .int 0, .ref h0_25, .ref h0_26, .int 0, .int 0, .ref h0_29, .ref h0_30, .ref h0_31, .ref h0_32, .int 0, .long 0, .long 0, .long 0, .long 0, .int 0, .ref h0_39, .ref h0_40, .int 0, .ref h0_42, .int 0, .ref h0_44, .ref h0_45, .int 0, .int 0, .int 0, .int 0, .int 0, .int 0])), (h0_2, .inl (cI, 35942, .inl mrow))]) ⟨hx, hb, hml, hown, hts⟩ (c_X12_in l G cI cJ cZ cD cR cT (u1).toInt64 0 10000000 u1.toInt 0 10000000 _ (Int32.toInt_toInt64 u1) (by decide) (by decide)) (va_cwS 3 hts gv_X12_estate_90_X12_in rfl rfl rfl (by decide +kernel) ⟨Nat.le_of_ble_eq_true rfl, Nat.le_of_ble_eq_true rfl⟩) hKK hP hD hS hA [] [0, 1] rfl rfl (by decide +kernel) (by decide +kernel) (by decide +kernel) rfl hl.1 rfl (lv_room (Nat.le_of_ble_eq_true rfl)) dX12_estate_11 ⟨Nat.le_of_ble_eq_true rfl, Nat.le_of_ble_eq_true rfl⟩ (fun v2 q1 gq1 H locs hv2 => appW (ws' := [(h0, .inr (12, [.int 0, .int 0, .ref h0_2, .ref h0_3, .ref h0_4, .ref h0_5, .int 0, .int 0, .int 0, .ref h0_9, .ref h0_10, .ref h0_11, .int 0, .int 0, .int 0, .int 0, .long 0, .int (-1), .int 0, .int 0, .ref h0_20, .int 0, .ref h0_22, .ref h0_23, .int 0, .ref h0_25, .ref h0_26, .int 0, .int 0, .ref h0_29, .ref h0_30, .ref h0_31, .ref h0_32, .int 0, .long 0, .long 0, .long 0, .long 0, .int 0, .ref h0_39, .ref h0_40, .int 0, .ref h0_42, .int 0, .ref h0_44, .ref h0_45, .int 0, .int 0, .int 0, .int 0, .int 0, .int 0])), (h0_2, .inl (cI, 35942, .inl mrow))]) rfl (fun hP hD hS => ?_))
  obtain ⟨_, rfl, h4⟩ := hv2
  rcases h4 with ⟨rfl, h4⟩ | ⟨rfl, h4⟩
  · refine lv_if_eq (tgt := 29) hx hb dX12_estate_14 (by decide) (fun c => absurd c (by decide)) (fun _ => ?_)
    refine lv_iload_n hx hb dX12_estate_17 rfl (lv_at hl 2 rfl) ?_
    refine lv_i2l hx hb dX12_estate_18 rfl ?_
    refine lv_lconst (v := 0) hx hb dX12_estate_19 (by decide) ?_
    refine lv_ldc2 (v := 1000000) hx hb hown (hts _ (dmem (j := 5) rfl)) dX12_estate_20 ?_
    refine goS (As := [.long (u2).toInt64, .long 0, .long 1000000]) (rest := []) (wr := [(h0, .inr (12, [.int 0, .int 0, .ref h0_2, .ref h0_3, .ref h0_4, .ref h0_5, .int 0, .int 0, .int 0, .ref h0_9, .ref h0_10, .ref h0_11, .int 0, .int 0, .int 0, .int 0, .long 0, .int (-1), .int 0, .int 0, .ref h0_20, .int 0, .ref h0_22, .ref h0_23, .int 0, .ref h0_25, .ref h0_26, .int 0, .int 0, .ref h0_29, .ref h0_30, .ref h0_31, .ref h0_32, .int 0, .long 0, .long 0, .long 0, .long 0, .int 0, .ref h0_39, .ref h0_40, .int 0, .ref h0_42, .int 0, .ref h0_44, .ref h0_45, .int 0, .int 0, .int 0, .int 0, .int 0, .int 0])), (h0_2, .inl (cI, 35942, .inl mrow))]) ⟨hx, hb, hml, hown, hts⟩ (c_X12_in l G cI cJ cZ cD cR cT (u2).toInt64 0 1000000 u2.toInt 0 1000000 _ (Int32.toInt_toInt64 u2) (by decide) (by decide)) (va_cwS 3 hts gv_X12_estate_90_X12_in rfl rfl rfl (by decide +kernel) ⟨Nat.le_of_ble_eq_true rfl, Nat.le_of_ble_eq_true rfl⟩) hKK hP hD hS hA [] [0, 1] rfl rfl (by decide +kernel) (by decide +kernel) (by decide +kernel) rfl hl.1 rfl (lv_room (Nat.le_of_ble_eq_true rfl)) dX12_estate_23 ⟨Nat.le_of_ble_eq_true rfl, Nat.le_of_ble_eq_true rfl⟩ (fun v6 q5 gq5 H locs hv6 => appW (ws' := [(h0, .inr (12, [.int 0, .int 0, .ref h0_2, .ref h0_3, .ref h0_4, .ref h0_5, .int 0, .int 0, .int 0, .ref h0_9, .ref h0_10, .ref h0_11, .int 0, .int 0, .int 0, .int 0, .long 0, .int (-1), .int 0, .int 0, .ref h0_20, .int 0, .ref h0_22, .ref h0_23, .int 0, .ref h0_25, .ref h0_26, .int 0, .int 0, .ref h0_29, .ref h0_30, .ref h0_31, .ref h0_32, .int 0, .long 0, .long 0, .long 0, .long 0, .int 0, .ref h0_39, .ref h0_40, .int 0, .ref h0_42, .int 0, .ref h0_44, .ref h0_45, .int 0, .int 0, .int 0, .int 0, .int 0, .int 0])), (h0_2, .inl (cI, 35942, .inl mrow))]) rfl (fun hP hD hS => ?_))
    obtain ⟨_, rfl, h8⟩ := hv6
    rcases h8 with ⟨rfl, h8⟩ | ⟨rfl, h8⟩
    · refine lv_if_ne (tgt := 35) hx hb dX12_estate_26 (by decide) (fun _ => ?_) (fun c => absurd c (by decide))
      refine lv_aload_n hx hb dX12_estate_35 rfl (lv_at hl 0 rfl) ?_
      refine va_get (D := G) (ci := 12) (v := .ref h0_2) (C := RX12) (T := TX12) (N := 52) hx hb hts cm_X12_estate_0 hown hK hP 0 rfl rfl 2 (by decide) (hts _ (dmem (j := 6) rfl)) (fun _ h9 => h9) rfl dX12_estate_36 ?_
      refine lv_iconst (v := 1) hx hb dX12_estate_39 (by decide) ?_
      refine va_iald hx hb hK hP 1 0 rfl rfl (vp_in_iff.mpr (by decide)) dX12_estate_40 ?_
      refine lv_topi (fun x9 ex9 => ?_)
      obtain rfl : 0 = x9 := (ex9.trans (by first | rfl | decide | (simp [upd, mrow]; done))).symm
      refine lv_bipush (v := 8) hx hb dX12_estate_41 (by decide) ?_
      refine lv_icmp_ne (tgt := 53) hx hb dX12_estate_43 (by decide) (fun _ => ?_) (fun c => absurd c (by decide))
      refine lv_aload_n hx hb dX12_estate_53 rfl (lv_at hl 0 rfl) ?_
      refine va_get (D := G) (ci := 12) (v := .ref h0_2) (C := RX12) (T := TX12) (N := 52) hx hb hts cm_X12_estate_0 hown hK hP 0 rfl rfl 2 (by decide) (hts _ (dmem (j := 6) rfl)) (fun _ h9 => h9) rfl dX12_estate_54 ?_
      refine lv_iconst (v := 1) hx hb dX12_estate_57 (by decide) ?_
      refine va_iald hx hb hK hP 1 0 rfl rfl (vp_in_iff.mpr (by decide)) dX12_estate_58 ?_
      refine lv_topi (fun x10 ex10 => ?_)
      obtain rfl : 0 = x10 := (ex10.trans (by first | rfl | decide | (simp [upd, mrow]; done))).symm
      refine goS (As := [.int 0]) (rest := []) (wr := [(h0, .inr (12, [.int 0, .int 0, .ref h0_2, .ref h0_3, .ref h0_4, .ref h0_5, .int 0, .int 0, .int 0, .ref h0_9, .ref h0_10, .ref h0_11, .int 0, .int 0, .int 0, .int 0, .long 0, .int (-1), .int 0, .int 0, .ref h0_20, .int 0, .ref h0_22, .ref h0_23, .int 0, .ref h0_25, .ref h0_26, .int 0, .int 0, .ref h0_29, .ref h0_30, .ref h0_31, .ref h0_32, .int 0, .long 0, .long 0, .long 0, .long 0, .int 0, .ref h0_39, .ref h0_40, .int 0, .ref h0_42, .int 0, .ref h0_44, .ref h0_45, .int 0, .int 0, .int 0, .int 0, .int 0, .int 0])), (h0_2, .inl (cI, 35942, .inl mrow))]) ⟨hx, hb, hml, hown, hts⟩ (c_X12_estateAt_v1 l G cI cJ cZ cD cR cT _) (va_cwS 1 hts gv_X12_estate_125_X12_estateAt_v1 rfl rfl rfl (by decide +kernel) ⟨Nat.le_of_ble_eq_true rfl, Nat.le_of_ble_eq_true rfl⟩) hKK hP hD hS hA [] [0, 1] rfl rfl (by decide +kernel) (by decide +kernel) (by decide +kernel) rfl hl.1 rfl (lv_room (Nat.le_of_ble_eq_true rfl)) dX12_estate_59 ⟨Nat.le_of_ble_eq_true rfl, Nat.le_of_ble_eq_true rfl⟩ (fun v12 q11 gq11 H locs hv12 => appW (ws' := [(h0, .inr (12, [.int 0, .int 0, .ref h0_2, .ref h0_3, .ref h0_4, .ref h0_5, .int 0, .int 0, .int 0, .ref h0_9, .ref h0_10, .ref h0_11, .int 0, .int 0, .int 0, .int 0, .long 0, .int (-1), .int 0, .int 0, .ref h0_20, .int 0, .ref h0_22, .ref h0_23, .int 0, .ref h0_25, .ref h0_26, .int 0, .int 0, .ref h0_29, .ref h0_30, .ref h0_31, .ref h0_32, .int 0, .long 0, .long 0, .long 0, .long 0, .int 0, .ref h0_39, .ref h0_40, .int 0, .ref h0_42, .int 0, .ref h0_44, .ref h0_45, .int 0, .int 0, .int 0, .int 0, .int 0, .int 0])), (h0_2, .inl (cI, 35942, .inl mrow))]) rfl (fun hP hD hS => ?_))
      obtain ⟨_, rfl, rfl⟩ := hv12
      refine lv_istore_n (lv' := [(3, .int 340), (0, .ref h0), (1, .int u1), (2, .int u2)]) hx hb dX12_estate_62 rfl hl (by decide) rfl (fun ls hl => ?_)
      refine lv_aload_n hx hb dX12_estate_63 rfl (lv_at hl 1 rfl) ?_
      refine va_get (D := G) (ci := 12) (v := .ref h0_2) (C := RX12) (T := TX12) (N := 52) hx hb hts cm_X12_estate_0 hown hK hP 0 rfl rfl 2 (by decide) (hts _ (dmem (j := 6) rfl)) (fun _ h9 => h9) rfl dX12_estate_64 ?_
      refine lv_iload_n hx hb dX12_estate_67 rfl (lv_at hl 0 rfl) ?_
      refine lv_iload_n hx hb dX12_estate_68 rfl (lv_at hl 2 rfl) ?_
      refine va_iast hx hb hK hP hD hS 1 0 rfl rfl (vp_in_iff.mpr (by decide)) dX12_estate_69 (fun H locs => setW (ws' := [(h0, .inr (12, [.int 0, .int 0, .ref h0_2, .ref h0_3, .ref h0_4, .ref h0_5, .int 0, .int 0, .int 0, .ref h0_9, .ref h0_10, .ref h0_11, .int 0, .int 0, .int 0, .int 0, .long 0, .int (-1), .int 0, .int 0, .ref h0_20, .int 0, .ref h0_22, .ref h0_23, .int 0, .ref h0_25, .ref h0_26, .int 0, .int 0, .ref h0_29, .ref h0_30, .ref h0_31, .ref h0_32, .int 0, .long 0, .long 0, .long 0, .long 0, .int 0, .ref h0_39, .ref h0_40, .int 0, .ref h0_42, .int 0, .ref h0_44, .ref h0_45, .int 0, .int 0, .int 0, .int 0, .int 0, .int 0])), (h0_2, .inl (cI, 35942, .inl (upd mrow 340 u1)))]) rfl (fun hP hD hS => ?_))
      refine lv_aload_n hx hb dX12_estate_70 rfl (lv_at hl 1 rfl) ?_
      refine va_get (D := G) (ci := 12) (v := .ref h0_2) (C := RX12) (T := TX12) (N := 52) hx hb hts cm_X12_estate_0 hown hK hP 0 rfl rfl 2 (by decide) (hts _ (dmem (j := 6) rfl)) (fun _ h9 => h9) rfl dX12_estate_71 ?_
      refine lv_iload_n hx hb dX12_estate_74 rfl (lv_at hl 0 rfl) ?_
      refine lv_iconst (v := 1) hx hb dX12_estate_75 (by decide) ?_
      refine lv_iadd hx hb dX12_estate_76 ?_
      refine lv_topi (fun x14 ex14 => ?_)
      obtain rfl : 341 = x14 := (ex14.trans (by decide)).symm
      refine lv_iload_n hx hb dX12_estate_77 rfl (lv_at hl 3 rfl) ?_
      refine va_iast hx hb hK hP hD hS 1 0 rfl rfl (vp_in_iff.mpr (by decide)) dX12_estate_78 (fun H locs => setW (ws' := [(h0, .inr (12, [.int 0, .int 0, .ref h0_2, .ref h0_3, .ref h0_4, .ref h0_5, .int 0, .int 0, .int 0, .ref h0_9, .ref h0_10, .ref h0_11, .int 0, .int 0, .int 0, .int 0, .long 0, .int (-1), .int 0, .int 0, .ref h0_20, .int 0, .ref h0_22, .ref h0_23, .int 0, .ref h0_25, .ref h0_26, .int 0, .int 0, .ref h0_29, .ref h0_30, .ref h0_31, .ref h0_32, .int 0, .long 0, .long 0, .long 0, .long 0, .int 0, .ref h0_39, .ref h0_40, .int 0, .ref h0_42, .int 0, .ref h0_44, .ref h0_45, .int 0, .int 0, .int 0, .int 0, .int 0, .int 0])), (h0_2, .inl (cI, 35942, .inl (upd (upd mrow 340 u1) 341 u2)))]) rfl (fun hP hD hS => ?_))
      refine lv_aload_n hx hb dX12_estate_79 rfl (lv_at hl 1 rfl) ?_
      refine va_get (D := G) (ci := 12) (v := .ref h0_2) (C := RX12) (T := TX12) (N := 52) hx hb hts cm_X12_estate_0 hown hK hP 0 rfl rfl 2 (by decide) (hts _ (dmem (j := 6) rfl)) (fun _ h9 => h9) rfl dX12_estate_80 ?_
      refine lv_iload_n hx hb dX12_estate_83 rfl (lv_at hl 0 rfl) ?_
      refine lv_iconst (v := 2) hx hb dX12_estate_84 (by decide) ?_
      refine lv_iadd hx hb dX12_estate_85 ?_
      refine lv_topi (fun x15 ex15 => ?_)
      obtain rfl : 342 = x15 := (ex15.trans (by decide)).symm
      refine lv_iconst (v := (-1)) hx hb dX12_estate_86 (by decide) ?_
      refine va_iast hx hb hK hP hD hS 1 0 rfl rfl (vp_in_iff.mpr (by decide)) dX12_estate_87 (fun H locs => setW (ws' := [(h0, .inr (12, [.int 0, .int 0, .ref h0_2, .ref h0_3, .ref h0_4, .ref h0_5, .int 0, .int 0, .int 0, .ref h0_9, .ref h0_10, .ref h0_11, .int 0, .int 0, .int 0, .int 0, .long 0, .int (-1), .int 0, .int 0, .ref h0_20, .int 0, .ref h0_22, .ref h0_23, .int 0, .ref h0_25, .ref h0_26, .int 0, .int 0, .ref h0_29, .ref h0_30, .ref h0_31, .ref h0_32, .int 0, .long 0, .long 0, .long 0, .long 0, .int 0, .ref h0_39, .ref h0_40, .int 0, .ref h0_42, .int 0, .ref h0_44, .ref h0_45, .int 0, .int 0, .int 0, .int 0, .int 0, .int 0])), (h0_2, .inl (cI, 35942, .inl (upd (upd (upd mrow 340 u1) 341 u2) 342 (-1))))]) rfl (fun hP hD hS => ?_))
      refine lv_aload_n hx hb dX12_estate_88 rfl (lv_at hl 1 rfl) ?_
      refine va_get (D := G) (ci := 12) (v := .ref h0_2) (C := RX12) (T := TX12) (N := 52) hx hb hts cm_X12_estate_0 hown hK hP 0 rfl rfl 2 (by decide) (hts _ (dmem (j := 6) rfl)) (fun _ h9 => h9) rfl dX12_estate_89 ?_
      refine lv_iconst (v := 1) hx hb dX12_estate_92 (by decide) ?_
      refine lv_dup2_11 hx hb dX12_estate_93 rfl rfl ?_
      refine va_iald hx hb hK hP 1 0 rfl rfl (vp_in_iff.mpr (by decide)) dX12_estate_94 ?_
      refine lv_topi (fun x16 ex16 => ?_)
      obtain rfl : 0 = x16 := (ex16.trans (by first | rfl | decide | (simp [upd, mrow]; done))).symm
      refine lv_iconst (v := 1) hx hb dX12_estate_95 (by decide) ?_
      refine lv_iadd hx hb dX12_estate_96 ?_
      refine lv_topi (fun x17 ex17 => ?_)
      obtain rfl : 1 = x17 := (ex17.trans (by decide)).symm
      refine va_iast hx hb hK hP hD hS 1 0 rfl rfl (vp_in_iff.mpr (by decide)) dX12_estate_97 (fun H locs => setW (ws' := [(h0, .inr (12, [.int 0, .int 0, .ref h0_2, .ref h0_3, .ref h0_4, .ref h0_5, .int 0, .int 0, .int 0, .ref h0_9, .ref h0_10, .ref h0_11, .int 0, .int 0, .int 0, .int 0, .long 0, .int (-1), .int 0, .int 0, .ref h0_20, .int 0, .ref h0_22, .ref h0_23, .int 0, .ref h0_25, .ref h0_26, .int 0, .int 0, .ref h0_29, .ref h0_30, .ref h0_31, .ref h0_32, .int 0, .long 0, .long 0, .long 0, .long 0, .int 0, .ref h0_39, .ref h0_40, .int 0, .ref h0_42, .int 0, .ref h0_44, .ref h0_45, .int 0, .int 0, .int 0, .int 0, .int 0, .int 0])), (h0_2, .inl (cI, 35942, .inl (upd (upd (upd (upd mrow 340 u1) 341 u2) 342 (-1)) 1 1)))]) rfl (fun hP hD hS => ?_))
      refine lv_aload_n hx hb dX12_estate_98 rfl (lv_at hl 1 rfl) ?_
      refine lv_aload_n hx hb dX12_estate_99 rfl (lv_at hl 1 rfl) ?_
      refine va_get (D := G) (ci := 12) (v := .ref h0_2) (C := RX12) (T := TX12) (N := 52) hx hb hts cm_X12_estate_0 hown hK hP 0 rfl rfl 2 (by decide) (hts _ (dmem (j := 6) rfl)) (fun _ h9 => h9) rfl dX12_estate_100 ?_
      refine lv_iconst (v := 1) hx hb dX12_estate_103 (by decide) ?_
      refine va_iald hx hb hK hP 1 0 rfl rfl (vp_in_iff.mpr (by decide)) dX12_estate_104 ?_
      refine lv_topi (fun x18 ex18 => ?_)
      obtain rfl : 1 = x18 := (ex18.trans (by first | rfl | decide | (simp [upd, mrow]; done))).symm
      refine lv_iconst (v := 1) hx hb dX12_estate_105 (by decide) ?_
      refine lv_isub hx hb dX12_estate_106 ?_
      refine lv_topi (fun x19 ex19 => ?_)
      obtain rfl : 0 = x19 := (ex19.trans (by decide)).symm
      refine goV (As := [.int 0]) (rest := []) (wr := [(h0_2, .inl (cI, 35942, .inl (upd (upd (upd (upd mrow 340 u1) 341 u2) 342 (-1)) 1 1)))]) ⟨hx, hb, hml, hown, hts⟩ (c_X12_told_v1 l G cI cJ cZ cD cR cT h0 h0_2 h0_3 h0_4 h0_5 h0_9 h0_10 h0_11 h0_20 h0_22 h0_23 h0_25 h0_26 h0_29 h0_30 h0_31 h0_32 h0_39 h0_40 h0_42 h0_44 h0_45 _) (cwV 1 hts gv_X12_estate_94_X12_told_v1 rfl rfl rfl (by decide +kernel) ⟨Nat.le_of_ble_eq_true rfl, Nat.le_of_ble_eq_true rfl⟩) 0 rfl rfl rfl hKK hP hD hS hA [0] [1] rfl rfl (by decide +kernel) (by decide +kernel) (by decide +kernel) rfl hl.1 rfl (lv_room (Nat.le_of_ble_eq_true rfl)) dX12_estate_107 ⟨Nat.le_of_ble_eq_true rfl, Nat.le_of_ble_eq_true rfl⟩ (fun v21 q20 gq20 H locs hv21 => appW (ws' := [(h0_2, .inl (cI, 35942, .inl (upd (upd (upd (upd mrow 340 u1) 341 u2) 342 (-1)) 1 1))), (h0, .inr (12, [.int 0, .int 0, .ref h0_2, .ref h0_3, .ref h0_4, .ref h0_5, .int 0, .int 0, .int 0, .ref h0_9, .ref h0_10, .ref h0_11, .int 0, .int 0, .int 0, .int 0, .long 0, .int (-1), .int 0, .int 0, .ref h0_20, .int 0, .ref h0_22, .ref h0_23, .int 0, .ref h0_25, .ref h0_26, .int 0, .int 0, .ref h0_29, .ref h0_30, .ref h0_31, .ref h0_32, .int 0, .long 0, .long 0, .long 0, .long 0, .int 0, .ref h0_39, .ref h0_40, .int 0, .ref h0_42, .int 0, .ref h0_44, .ref h0_45, .int 0, .int 0, .int 0, .int 0, .int 0, .int 0]))]) rfl (fun hP hD hS => ?_))
      obtain ⟨_, rfl, rfl⟩ := hv21
      exact retI hx hb hr hlocks ⟨_, rfl, by have hz0 : (0 : Int32).toInt = 0 := rfl; have hz1 : (1 : Int32).toInt = 1 := rfl; unfold F_estate; (repeat' split) <;> first | rfl | (exfalso; omega)⟩ hP hD hS (fun _ => 0) (fun _ _ => 0) [] (by decide +kernel) rfl dX12_estate_110
    · refine lv_if_ne (tgt := 35) hx hb dX12_estate_26 (by decide) (fun c => absurd c (by decide)) (fun _ => ?_)
      refine lv_aload_n hx hb dX12_estate_29 rfl (lv_at hl 0 rfl) ?_
      refine lv_iconst (v := (-1)) hx hb dX12_estate_30 (by decide) ?_
      refine goV (As := [.int (-1)]) (rest := []) (wr := [(h0_2, .inl (cI, 35942, .inl mrow))]) ⟨hx, hb, hml, hown, hts⟩ (c_X12_told_v2 l G cI cJ cZ cD cR cT h0 h0_2 h0_3 h0_4 h0_5 h0_9 h0_10 h0_11 h0_20 h0_22 h0_23 h0_25 h0_26 h0_29 h0_30 h0_31 h0_32 h0_39 h0_40 h0_42 h0_44 h0_45 _) (cwV 1 hts gv_X12_estate_94_X12_told_v2 rfl rfl rfl (by decide +kernel) ⟨Nat.le_of_ble_eq_true rfl, Nat.le_of_ble_eq_true rfl⟩) 0 rfl rfl rfl hKK hP hD hS hA [0] [1] rfl rfl (by decide +kernel) (by decide +kernel) (by decide +kernel) rfl hl.1 rfl (lv_room (Nat.le_of_ble_eq_true rfl)) dX12_estate_31 ⟨Nat.le_of_ble_eq_true rfl, Nat.le_of_ble_eq_true rfl⟩ (fun v24 q23 gq23 H locs hv24 => appW (ws' := [(h0_2, .inl (cI, 35942, .inl mrow)), (h0, .inr (12, [.int 0, .int (-1), .ref h0_2, .ref h0_3, .ref h0_4, .ref h0_5, .int 0, .int 0, .int 0, .ref h0_9, .ref h0_10, .ref h0_11, .int 0, .int 0, .int 0, .int 0, .long 0, .int (-1), .int 0, .int 0, .ref h0_20, .int 0, .ref h0_22, .ref h0_23, .int 0, .ref h0_25, .ref h0_26, .int 0, .int 0, .ref h0_29, .ref h0_30, .ref h0_31, .ref h0_32, .int 0, .long 0, .long 0, .long 0, .long 0, .int 0, .ref h0_39, .ref h0_40, .int 0, .ref h0_42, .int 0, .ref h0_44, .ref h0_45, .int 0, .int 0, .int 0, .int 0, .int 0, .int 0]))]) rfl (fun hP hD hS => ?_))
      obtain ⟨_, rfl, rfl⟩ := hv24
      exact retI hx hb hr hlocks ⟨_, rfl, by have hz0 : (0 : Int32).toInt = 0 := rfl; have hz1 : (1 : Int32).toInt = 1 := rfl; unfold F_estate; (repeat' split) <;> first | rfl | (exfalso; omega)⟩ hP hD hS (fun _ => 0) (fun _ _ => 0) [] (by decide +kernel) rfl dX12_estate_34
  · refine lv_if_eq (tgt := 29) hx hb dX12_estate_14 (by decide) (fun _ => ?_) (fun c => absurd c (by decide))
    refine lv_aload_n hx hb dX12_estate_29 rfl (lv_at hl 0 rfl) ?_
    refine lv_iconst (v := (-1)) hx hb dX12_estate_30 (by decide) ?_
    refine goV (As := [.int (-1)]) (rest := []) (wr := [(h0_2, .inl (cI, 35942, .inl mrow))]) ⟨hx, hb, hml, hown, hts⟩ (c_X12_told_v2 l G cI cJ cZ cD cR cT h0 h0_2 h0_3 h0_4 h0_5 h0_9 h0_10 h0_11 h0_20 h0_22 h0_23 h0_25 h0_26 h0_29 h0_30 h0_31 h0_32 h0_39 h0_40 h0_42 h0_44 h0_45 _) (cwV 1 hts gv_X12_estate_94_X12_told_v2 rfl rfl rfl (by decide +kernel) ⟨Nat.le_of_ble_eq_true rfl, Nat.le_of_ble_eq_true rfl⟩) 0 rfl rfl rfl hKK hP hD hS hA [0] [1] rfl rfl (by decide +kernel) (by decide +kernel) (by decide +kernel) rfl hl.1 rfl (lv_room (Nat.le_of_ble_eq_true rfl)) dX12_estate_31 ⟨Nat.le_of_ble_eq_true rfl, Nat.le_of_ble_eq_true rfl⟩ (fun v27 q26 gq26 H locs hv27 => appW (ws' := [(h0_2, .inl (cI, 35942, .inl mrow)), (h0, .inr (12, [.int 0, .int (-1), .ref h0_2, .ref h0_3, .ref h0_4, .ref h0_5, .int 0, .int 0, .int 0, .ref h0_9, .ref h0_10, .ref h0_11, .int 0, .int 0, .int 0, .int 0, .long 0, .int (-1), .int 0, .int 0, .ref h0_20, .int 0, .ref h0_22, .ref h0_23, .int 0, .ref h0_25, .ref h0_26, .int 0, .int 0, .ref h0_29, .ref h0_30, .ref h0_31, .ref h0_32, .int 0, .long 0, .long 0, .long 0, .long 0, .int 0, .ref h0_39, .ref h0_40, .int 0, .ref h0_42, .int 0, .ref h0_44, .ref h0_45, .int 0, .int 0, .int 0, .int 0, .int 0, .int 0]))]) rfl (fun hP hD hS => ?_))
    obtain ⟨_, rfl, rfl⟩ := hv27
    exact retI hx hb hr hlocks ⟨_, rfl, by have hz0 : (0 : Int32).toInt = 0 := rfl; have hz1 : (1 : Int32).toInt = 1 := rfl; unfold F_estate; (repeat' split) <;> first | rfl | (exfalso; omega)⟩ hP hD hS (fun _ => 0) (fun _ _ => 0) [] (by decide +kernel) rfl dX12_estate_34
def d_X12_isEstate_v1 : List Cond := [Cond.fieldLink RX12 8 "NoRentModel" "row" "[I", Cond.methodLink RX12 90 yX12_in, Cond.static yX12_in, Cond.initialized RX12]
def v_X12_isEstate_v1 : List Cond := Cond.code yX12_isEstate cX12_isEstate 2 (some .boolean) :: (d_X12_isEstate_v1 ++ (wsX120 ++ (v_X12_in ++ ([] : List Cond))))
theorem cm_X12_isEstate_v1_0 : ∀ w ∈ wsX120, w ∈ v_X12_isEstate_v1 := fun _ h => List.mem_cons_of_mem _ (List.mem_append_right _ (List.mem_append_left _ h))
theorem cm_X12_isEstate_v1_1 : ∀ w ∈ v_X12_in, w ∈ v_X12_isEstate_v1 := fun _ h => List.mem_cons_of_mem _ (List.mem_append_right _ (List.mem_append_right _ (List.mem_append_left _ h)))
theorem gd_X12_isEstate_v1 : Gd v_X12_isEstate_v1 := gd_mk (by decide +kernel) (gd_app gd_X12 (gd_app gd_X12_in gd_nil))
set_option maxRecDepth 20000 in
theorem gv_X12_isEstate_v1_90_X12_in : GoodIn v_X12_isEstate_v1 (va_wsS RX12 90 yX12_in v_X12_in) := goodIn_app (goodIn_of _ (by decide +kernel)) (gi cm_X12_isEstate_v1_1 gd_X12_in)
set_option maxHeartbeats 4000000 in
set_option maxRecDepth 100000 in
theorem c_X12_isEstate_v1 (l : Launch) (G : va_G) (cI cJ cZ cD cR cT : ClassId) (h0 : Nat) (n1 : Int32) (h0_2 : Nat) (h0_3 : Nat) (h0_4 : Nat) (h0_5 : Nat) (h0_9 : Nat) (h0_10 : Nat) (h0_11 : Nat) (h0_20 : Nat) (h0_22 : Nat) (h0_23 : Nat) (h0_25 : Nat) (h0_26 : Nat) (h0_29 : Nat) (h0_30 : Nat) (h0_31 : Nat) (h0_32 : Nat) (h0_39 : Nat) (h0_40 : Nat) (h0_42 : Nat) (h0_44 : Nat) (h0_45 : Nat) (sz : Nat) : Met l yX12_isEstate v_X12_isEstate_v1 ({ frames := 2, cells := 0, slots := 0, locals := 65 }) (va_Pc [.ref h0, .int n1] (PreW G (tys6 cI cJ cZ cD cR cT) [(h0, .inr (12, [.int 0, .int 0, .ref h0_2, .ref h0_3, .ref h0_4, .ref h0_5, .int 0, .int 0, .int 0, .ref h0_9, .ref h0_10, .ref h0_11, .int 0, .int 0, .int 0, .int 0, .long 0, .int (-1), .int 0, .int 0, .ref h0_20, .int 0, .ref h0_22, .ref h0_23, .int 0, .ref h0_25, .ref h0_26, .int 0, .int 0, .ref h0_29, .ref h0_30, .ref h0_31, .ref h0_32, .int 0, .long 0, .long 0, .long 0, .long 0, .int 0, .ref h0_39, .ref h0_40, .int 0, .ref h0_42, .int 0, .ref h0_44, .ref h0_45, .int 0, .int 0, .int 0, .int 0, .int 0, .int 0])), (h0_2, .inl (cI, 35942, .inl mrow))] sz)) (QW (RI (fun r => r = 0)) G (va_A [(h0, .inr (12, [.int 0, .int 0, .ref h0_2, .ref h0_3, .ref h0_4, .ref h0_5, .int 0, .int 0, .int 0, .ref h0_9, .ref h0_10, .ref h0_11, .int 0, .int 0, .int 0, .int 0, .long 0, .int (-1), .int 0, .int 0, .ref h0_20, .int 0, .ref h0_22, .ref h0_23, .int 0, .ref h0_25, .ref h0_26, .int 0, .int 0, .ref h0_29, .ref h0_30, .ref h0_31, .ref h0_32, .int 0, .long 0, .long 0, .long 0, .long 0, .int 0, .ref h0_39, .ref h0_40, .int 0, .ref h0_42, .int 0, .ref h0_44, .ref h0_45, .int 0, .int 0, .int 0, .int 0, .int 0, .int 0])), (h0_2, .inl (cI, 35942, .inl mrow))] sz) (fun q g => [(h0, .inr (12, [.int 0, .int 0, .ref h0_2, .ref h0_3, .ref h0_4, .ref h0_5, .int 0, .int 0, .int 0, .ref h0_9, .ref h0_10, .ref h0_11, .int 0, .int 0, .int 0, .int 0, .long 0, .int (-1), .int 0, .int 0, .ref h0_20, .int 0, .ref h0_22, .ref h0_23, .int 0, .ref h0_25, .ref h0_26, .int 0, .int 0, .ref h0_29, .ref h0_30, .ref h0_31, .ref h0_32, .int 0, .long 0, .long 0, .long 0, .long 0, .int 0, .ref h0_39, .ref h0_40, .int 0, .ref h0_42, .int 0, .ref h0_44, .ref h0_45, .int 0, .int 0, .int 0, .int 0, .int 0, .int 0])), (h0_2, .inl (cI, 35942, .inl mrow))])) 0 0 (va_A [(h0, .inr (12, [.int 0, .int 0, .ref h0_2, .ref h0_3, .ref h0_4, .ref h0_5, .int 0, .int 0, .int 0, .ref h0_9, .ref h0_10, .ref h0_11, .int 0, .int 0, .int 0, .int 0, .long 0, .int (-1), .int 0, .int 0, .ref h0_20, .int 0, .ref h0_22, .ref h0_23, .int 0, .ref h0_25, .ref h0_26, .int 0, .int 0, .ref h0_29, .ref h0_30, .ref h0_31, .ref h0_32, .int 0, .long 0, .long 0, .long 0, .long 0, .int 0, .ref h0_39, .ref h0_40, .int 0, .ref h0_42, .int 0, .ref h0_44, .ref h0_45, .int 0, .int 0, .int 0, .int 0, .int 0, .int 0])), (h0_2, .inl (cI, 35942, .inl mrow))] sz) := by
  refine metW (cc := cX12_isEstate) (maxL := 2) (ret := (some .boolean)) (by decide) rfl (Nat.le_of_ble_eq_true rfl) ?_
  intro p e s m below meth c A ls hx hb hr hml hown hts hlocks hin hKK hP hD hA hS hl
  have hK := hKK.1
  have hown : s.vm.findClass RX12 = some m.cls := hown
  have hl : lv_has ls 2 [(0, .ref h0), (1, .int n1)] := hl
  have hP : va_P G vwCl [(h0, .inr (12, [.int 0, .int 0, .ref h0_2, .ref h0_3, .ref h0_4, .ref h0_5, .int 0, .int 0, .int 0, .ref h0_9, .ref h0_10, .ref h0_11, .int 0, .int 0, .int 0, .int 0, .long 0, .int (-1), .int 0, .int 0, .ref h0_20, .int 0, .ref h0_22, .ref h0_23, .int 0, .ref h0_25, .ref h0_26, .int 0, .int 0, .ref h0_29, .ref h0_30, .ref h0_31, .ref h0_32, .int 0, .long 0, .long 0, .long 0, .long 0, .int 0, .ref h0_39, .ref h0_40, .int 0, .ref h0_42, .int 0, .ref h0_44, .ref h0_45, .int 0, .int 0, .int 0, .int 0, .int 0, .int 0])), (h0_2, .inl (cI, 35942, .inl mrow))] s.heap := hP
  have hD : va_D A [(h0, .inr (12, [.int 0, .int 0, .ref h0_2, .ref h0_3, .ref h0_4, .ref h0_5, .int 0, .int 0, .int 0, .ref h0_9, .ref h0_10, .ref h0_11, .int 0, .int 0, .int 0, .int 0, .long 0, .int (-1), .int 0, .int 0, .ref h0_20, .int 0, .ref h0_22, .ref h0_23, .int 0, .ref h0_25, .ref h0_26, .int 0, .int 0, .ref h0_29, .ref h0_30, .ref h0_31, .ref h0_32, .int 0, .long 0, .long 0, .long 0, .long 0, .int 0, .ref h0_39, .ref h0_40, .int 0, .ref h0_42, .int 0, .ref h0_44, .ref h0_45, .int 0, .int 0, .int 0, .int 0, .int 0, .int 0])), (h0_2, .inl (cI, 35942, .inl mrow))] := hD
  refine lv_iload_n hx hb dX12_isEstate_0 rfl (lv_at hl 1 rfl) ?_
  refine lv_i2l hx hb dX12_isEstate_1 rfl ?_
  refine lv_lconst (v := 0) hx hb dX12_isEstate_2 (by decide) ?_
  refine lv_aload_n hx hb dX12_isEstate_3 rfl (lv_at hl 0 rfl) ?_
  refine va_get (D := G) (ci := 12) (v := .ref h0_2) (C := RX12) (T := TX12) (N := 52) hx hb hts cm_X12_isEstate_v1_0 hown hK hP 0 rfl rfl 2 (by decide) (hts _ (dmem (j := 0) rfl)) (fun _ h9 => h9) rfl dX12_isEstate_4 ?_
  refine lv_iconst (v := 1) hx hb dX12_isEstate_7 (by decide) ?_
  refine va_iald hx hb hK hP 1 0 rfl rfl (vp_in_iff.mpr (by decide)) dX12_isEstate_8 ?_
  refine lv_topi (fun x1 ex1 => ?_)
  obtain rfl : 0 = x1 := (ex1.trans (by first | rfl | decide | (simp [upd, mrow]; done))).symm
  refine lv_i2l (v := 0) hx hb dX12_isEstate_9 (by decide) ?_
  refine lv_lconst (v := 1) hx hb dX12_isEstate_10 (by decide) ?_
  refine lv_lsub hx hb dX12_isEstate_11 ?_
  refine lv_topl (fun x2 ex2 => ?_)
  obtain rfl : (-1) = x2 := (ex2.trans (by decide)).symm
  refine goS (As := [.long (n1).toInt64, .long 0, .long (-1)]) (rest := []) (wr := [(h0, .inr (12, [.int 0, .int 0, .ref h0_2, .ref h0_3, .ref h0_4, .ref h0_5, .int 0, .int 0, .int 0, .ref h0_9, .ref h0_10, .ref h0_11, .int 0, .int 0, .int 0, .int 0, .long 0, .int (-1), .int 0, .int 0, .ref h0_20, .int 0, .ref h0_22, .ref h0_23, .int 0, .ref h0_25, .ref h0_26, .int 0, .int 0, .ref h0_29, .ref h0_30, .ref h0_31, .ref h0_32, .int 0, .long 0, .long 0, .long 0, .long 0, .int 0, .ref h0_39, .ref h0_40, .int 0, .ref h0_42, .int 0, .ref h0_44, .ref h0_45, .int 0, .int 0, .int 0, .int 0, .int 0, .int 0])), (h0_2, .inl (cI, 35942, .inl mrow))]) ⟨hx, hb, hml, hown, hts⟩ (c_X12_in l G cI cJ cZ cD cR cT (n1).toInt64 0 (-1) n1.toInt 0 (-1) _ (Int32.toInt_toInt64 n1) (by decide) (by decide)) (va_cwS 3 hts gv_X12_isEstate_v1_90_X12_in rfl rfl rfl (by decide +kernel) ⟨Nat.le_of_ble_eq_true rfl, Nat.le_of_ble_eq_true rfl⟩) hKK hP hD hS hA [] [0, 1] rfl rfl (by decide +kernel) (by decide +kernel) (by decide +kernel) rfl hl.1 rfl (lv_room (Nat.le_of_ble_eq_true rfl)) dX12_isEstate_12 ⟨Nat.le_of_ble_eq_true rfl, Nat.le_of_ble_eq_true rfl⟩ (fun v4 q3 gq3 H locs hv4 => appW (ws' := [(h0, .inr (12, [.int 0, .int 0, .ref h0_2, .ref h0_3, .ref h0_4, .ref h0_5, .int 0, .int 0, .int 0, .ref h0_9, .ref h0_10, .ref h0_11, .int 0, .int 0, .int 0, .int 0, .long 0, .int (-1), .int 0, .int 0, .ref h0_20, .int 0, .ref h0_22, .ref h0_23, .int 0, .ref h0_25, .ref h0_26, .int 0, .int 0, .ref h0_29, .ref h0_30, .ref h0_31, .ref h0_32, .int 0, .long 0, .long 0, .long 0, .long 0, .int 0, .ref h0_39, .ref h0_40, .int 0, .ref h0_42, .int 0, .ref h0_44, .ref h0_45, .int 0, .int 0, .int 0, .int 0, .int 0, .int 0])), (h0_2, .inl (cI, 35942, .inl mrow))]) rfl (fun hP hD hS => ?_))
  obtain ⟨_, rfl, h6⟩ := hv4
  rcases h6 with ⟨rfl, h6⟩ | ⟨rfl, h6⟩
  · exfalso; omega
  · exact retZ hx hb hr hlocks (by decide) ⟨_, rfl, rfl⟩ hP hD hS (fun _ => 0) (fun _ _ => 0) [0, 1] (by decide +kernel) rfl dX12_isEstate_15
def d_X12_field : List Cond := [Cond.fieldLink RX12 82 "NoRentModel" "thrown" "I", Cond.constantLong RX12 128 (1000), Cond.methodLink RX12 90 yX12_in, Cond.static yX12_in, Cond.initialized RX12, Cond.constantLong RX12 130 (100000), Cond.methodLink RX12 132 yX12_isEstate, Cond.instanceMethod yX12_isEstate, Cond.selects RX12 yX12_isEstate yX12_isEstate, Cond.methodLink RX12 94 yX12_told, Cond.instanceMethod yX12_told, Cond.selects RX12 yX12_told yX12_told]
def v_X12_field : List Cond := Cond.code yX12_field cX12_field 6 (some .int) :: (d_X12_field ++ (wsX120 ++ (v_X12_in ++ (v_X12_isEstate_v1 ++ (v_X12_told_v3 ++ (v_X12_told_v2 ++ ([] : List Cond)))))))
theorem cm_X12_field_0 : ∀ w ∈ wsX120, w ∈ v_X12_field := fun _ h => List.mem_cons_of_mem _ (List.mem_append_right _ (List.mem_append_left _ h))
theorem cm_X12_field_1 : ∀ w ∈ v_X12_in, w ∈ v_X12_field := fun _ h => List.mem_cons_of_mem _ (List.mem_append_right _ (List.mem_append_right _ (List.mem_append_left _ h)))
theorem cm_X12_field_2 : ∀ w ∈ v_X12_isEstate_v1, w ∈ v_X12_field := fun _ h => List.mem_cons_of_mem _ (List.mem_append_right _ (List.mem_append_right _ (List.mem_append_right _ (List.mem_append_left _ h))))
theorem cm_X12_field_3 : ∀ w ∈ v_X12_told_v3, w ∈ v_X12_field := fun _ h => List.mem_cons_of_mem _ (List.mem_append_right _ (List.mem_append_right _ (List.mem_append_right _ (List.mem_append_right _ (List.mem_append_left _ h)))))
theorem cm_X12_field_4 : ∀ w ∈ v_X12_told_v2, w ∈ v_X12_field := fun _ h => List.mem_cons_of_mem _ (List.mem_append_right _ (List.mem_append_right _ (List.mem_append_right _ (List.mem_append_right _ (List.mem_append_right _ (List.mem_append_left _ h))))))
theorem gd_X12_field : Gd v_X12_field := gd_mk (by decide +kernel) (gd_app gd_X12 (gd_app gd_X12_in (gd_app gd_X12_isEstate_v1 (gd_app gd_X12_told_v3 (gd_app gd_X12_told_v2 gd_nil)))))
set_option maxRecDepth 20000 in
theorem gv_X12_field_90_X12_in : GoodIn v_X12_field (va_wsS RX12 90 yX12_in v_X12_in) := goodIn_app (goodIn_of _ (by decide +kernel)) (gi cm_X12_field_1 gd_X12_in)
set_option maxRecDepth 20000 in
theorem gv_X12_field_132_X12_isEstate_v1 : GoodIn v_X12_field (wsV RX12 132 RX12 yX12_isEstate v_X12_isEstate_v1) := goodIn_app (goodIn_of _ (by decide +kernel)) (gi cm_X12_field_2 gd_X12_isEstate_v1)
set_option maxRecDepth 20000 in
theorem gv_X12_field_94_X12_told_v3 : GoodIn v_X12_field (wsV RX12 94 RX12 yX12_told v_X12_told_v3) := goodIn_app (goodIn_of _ (by decide +kernel)) (gi cm_X12_field_3 gd_X12_told_v3)
set_option maxRecDepth 20000 in
theorem gv_X12_field_94_X12_told_v2 : GoodIn v_X12_field (wsV RX12 94 RX12 yX12_told v_X12_told_v2) := goodIn_app (goodIn_of _ (by decide +kernel)) (gi cm_X12_field_4 gd_X12_told_v2)
set_option maxHeartbeats 4000000 in
set_option maxRecDepth 100000 in
theorem c_X12_field (l : Launch) (G : va_G) (cI cJ cZ cD cR cT : ClassId) (h0 : Nat) (u1 : Int32) (u2 : Int32) (u3 : Int32) (u4 : Int32) (h0_2 : Nat) (h0_3 : Nat) (h0_4 : Nat) (h0_5 : Nat) (h0_9 : Nat) (h0_10 : Nat) (h0_11 : Nat) (h0_20 : Nat) (h0_22 : Nat) (h0_23 : Nat) (h0_25 : Nat) (h0_26 : Nat) (h0_29 : Nat) (h0_30 : Nat) (h0_31 : Nat) (h0_32 : Nat) (h0_39 : Nat) (h0_40 : Nat) (h0_42 : Nat) (h0_44 : Nat) (h0_45 : Nat) (sz : Nat) : Met l yX12_field v_X12_field ({ frames := 3, cells := 0, slots := 0, locals := 86 }) (va_Pc [.ref h0, .int u1, .int u2, .int u3, .int u4] (PreW G (tys6 cI cJ cZ cD cR cT) [(h0, .inr (12, [.int 0, .int 0, .ref h0_2, .ref h0_3, .ref h0_4, .ref h0_5, .int 0, .int 0, .int 0, .ref h0_9, .ref h0_10, .ref h0_11, .int 0, .int 0, .int 0, .int 0, .long 0, .int (-1), .int 0, .int 0, .ref h0_20, .int 0, .ref h0_22, .ref h0_23, .int 0, .ref h0_25, .ref h0_26, .int 0, .int 0, .ref h0_29, .ref h0_30, .ref h0_31, .ref h0_32, .int 0, .long 0, .long 0, .long 0, .long 0, .int 0, .ref h0_39, .ref h0_40, .int 0, .ref h0_42, .int 0, .ref h0_44, .ref h0_45, .int 0, .int 0, .int 0, .int 0, .int 0, .int 0])), (h0_2, .inl (cI, 35942, .inl mrow))] sz)) (QW (RI (fun r => r = F_field u1 u2 u3 u4)) G (va_A [(h0, .inr (12, [.int 0, .int 0, .ref h0_2, .ref h0_3, .ref h0_4, .ref h0_5, .int 0, .int 0, .int 0, .ref h0_9, .ref h0_10, .ref h0_11, .int 0, .int 0, .int 0, .int 0, .long 0, .int (-1), .int 0, .int 0, .ref h0_20, .int 0, .ref h0_22, .ref h0_23, .int 0, .ref h0_25, .ref h0_26, .int 0, .int 0, .ref h0_29, .ref h0_30, .ref h0_31, .ref h0_32, .int 0, .long 0, .long 0, .long 0, .long 0, .int 0, .ref h0_39, .ref h0_40, .int 0, .ref h0_42, .int 0, .ref h0_44, .ref h0_45, .int 0, .int 0, .int 0, .int 0, .int 0, .int 0])), (h0_2, .inl (cI, 35942, .inl mrow))] sz) (fun q g => [])) 0 0 (va_A [(h0, .inr (12, [.int 0, .int 0, .ref h0_2, .ref h0_3, .ref h0_4, .ref h0_5, .int 0, .int 0, .int 0, .ref h0_9, .ref h0_10, .ref h0_11, .int 0, .int 0, .int 0, .int 0, .long 0, .int (-1), .int 0, .int 0, .ref h0_20, .int 0, .ref h0_22, .ref h0_23, .int 0, .ref h0_25, .ref h0_26, .int 0, .int 0, .ref h0_29, .ref h0_30, .ref h0_31, .ref h0_32, .int 0, .long 0, .long 0, .long 0, .long 0, .int 0, .ref h0_39, .ref h0_40, .int 0, .ref h0_42, .int 0, .ref h0_44, .ref h0_45, .int 0, .int 0, .int 0, .int 0, .int 0, .int 0])), (h0_2, .inl (cI, 35942, .inl mrow))] sz) := by
  refine metW (cc := cX12_field) (maxL := 6) (ret := (some .int)) (by decide) rfl (Nat.le_of_ble_eq_true rfl) ?_
  intro p e s m below meth c A ls hx hb hr hml hown hts hlocks hin hKK hP hD hA hS hl
  have hK := hKK.1
  have hown : s.vm.findClass RX12 = some m.cls := hown
  have hl : lv_has ls 6 [(0, .ref h0), (1, .int u1), (2, .int u2), (3, .int u3), (4, .int u4)] := hl
  have hP : va_P G vwCl [(h0, .inr (12, [.int 0, .int 0, .ref h0_2, .ref h0_3, .ref h0_4, .ref h0_5, .int 0, .int 0, .int 0, .ref h0_9, .ref h0_10, .ref h0_11, .int 0, .int 0, .int 0, .int 0, .long 0, .int (-1), .int 0, .int 0, .ref h0_20, .int 0, .ref h0_22, .ref h0_23, .int 0, .ref h0_25, .ref h0_26, .int 0, .int 0, .ref h0_29, .ref h0_30, .ref h0_31, .ref h0_32, .int 0, .long 0, .long 0, .long 0, .long 0, .int 0, .ref h0_39, .ref h0_40, .int 0, .ref h0_42, .int 0, .ref h0_44, .ref h0_45, .int 0, .int 0, .int 0, .int 0, .int 0, .int 0])), (h0_2, .inl (cI, 35942, .inl mrow))] s.heap := hP
  have hD : va_D A [(h0, .inr (12, [.int 0, .int 0, .ref h0_2, .ref h0_3, .ref h0_4, .ref h0_5, .int 0, .int 0, .int 0, .ref h0_9, .ref h0_10, .ref h0_11, .int 0, .int 0, .int 0, .int 0, .long 0, .int (-1), .int 0, .int 0, .ref h0_20, .int 0, .ref h0_22, .ref h0_23, .int 0, .ref h0_25, .ref h0_26, .int 0, .int 0, .ref h0_29, .ref h0_30, .ref h0_31, .ref h0_32, .int 0, .long 0, .long 0, .long 0, .long 0, .int 0, .ref h0_39, .ref h0_40, .int 0, .ref h0_42, .int 0, .ref h0_44, .ref h0_45, .int 0, .int 0, .int 0, .int 0, .int 0, .int 0])), (h0_2, .inl (cI, 35942, .inl mrow))] := hD
  refine lv_aload_n hx hb dX12_field_0 rfl (lv_at hl 0 rfl) ?_
  refine lv_iconst (v := 0) hx hb dX12_field_1 (by decide) ?_
  refine va_put (D := G) (ci := 12) (v := .int 0) (ty := .int) (C := RX12) (T := TX12) (N := 52) hx hb hts cm_X12_field_0 tyX12 tyX12_ok nmX12 hown hK hP hD hS 0 rfl rfl 0 (by decide) (hts _ (dmem (j := 0) rfl)) (fun _ h9 => h9) rfl (by decide +kernel) rfl rfl (Nat.le_of_ble_eq_true rfl) dX12_field_2 (fun H locs => setW (ws' := [(h0, .inr (12, [.int 0, .int 0, .ref h0_2, .ref h0_3, .ref h0_4, .ref h0_5, .int 0, .int 0, .int 0, .ref h0_9, .ref h0_10, .ref h0_11, .int 0, .int 0, .int 0, .int 0, .long 0, .int (-1), .int 0, .int 0, .ref h0_20, .int 0, .ref h0_22, .ref h0_23, .int 0, .ref h0_25, .ref h0_26, .int 0, .int 0, .ref h0_29, .ref h0_30, .ref h0_31, .ref h0_32, .int 0, .long 0, .long 0, .long 0, .long 0, .int 0, .ref h0_39, .ref h0_40, .int 0, .ref h0_42, .int 0, .ref h0_44, .ref h0_45, .int 0, .int 0, .int 0, .int 0, .int 0, .int 0])), (h0_2, .inl (cI, 35942, .inl mrow))]) rfl (fun hP hD hS => ?_))
  refine lv_iload_n hx hb dX12_field_5 rfl (lv_at hl 2 rfl) ?_
  refine lv_i2l hx hb dX12_field_6 rfl ?_
  refine lv_lconst (v := 1) hx hb dX12_field_7 (by decide) ?_
  refine lv_ldc2 (v := 1000) hx hb hown (hts _ (dmem (j := 1) rfl)) dX12_field_8 ?_
  refine goS (As := [.long (u2).toInt64, .long 1, .long 1000]) (rest := []) (wr := [(h0, .inr (12, [.int 0, .int 0, .ref h0_2, .ref h0_3, .ref h0_4, .ref h0_5, .int 0, .int 0, .int 0, .ref h0_9, .ref h0_10, .ref h0_11, .int 0, .int 0, .int 0, .int 0, .long 0, .int (-1), .int 0, .int 0, .ref h0_20, .int 0, .ref h0_22, .ref h0_23, .int 0, .ref h0_25, .ref h0_26, .int 0, .int 0, .ref h0_29, .ref h0_30, .ref h0_31, .ref h0_32, .int 0, .long 0, .long 0, .long 0, .long 0, .int 0, .ref h0_39, .ref h0_40, .int 0, .ref h0_42, .int 0, .ref h0_44, .ref h0_45, .int 0, .int 0, .int 0, .int 0, .int 0, .int 0])), (h0_2, .inl (cI, 35942, .inl mrow))]) ⟨hx, hb, hml, hown, hts⟩ (c_X12_in l G cI cJ cZ cD cR cT (u2).toInt64 1 1000 u2.toInt 1 1000 _ (Int32.toInt_toInt64 u2) (by decide) (by decide)) (va_cwS 3 hts gv_X12_field_90_X12_in rfl rfl rfl (by decide +kernel) ⟨Nat.le_of_ble_eq_true rfl, Nat.le_of_ble_eq_true rfl⟩) hKK hP hD hS hA [] [0, 1] rfl rfl (by decide +kernel) (by decide +kernel) (by decide +kernel) rfl hl.1 rfl (lv_room (Nat.le_of_ble_eq_true rfl)) dX12_field_11 ⟨Nat.le_of_ble_eq_true rfl, Nat.le_of_ble_eq_true rfl⟩ (fun v2 q1 gq1 H locs hv2 => appW (ws' := [(h0, .inr (12, [.int 0, .int 0, .ref h0_2, .ref h0_3, .ref h0_4, .ref h0_5, .int 0, .int 0, .int 0, .ref h0_9, .ref h0_10, .ref h0_11, .int 0, .int 0, .int 0, .int 0, .long 0, .int (-1), .int 0, .int 0, .ref h0_20, .int 0, .ref h0_22, .ref h0_23, .int 0, .ref h0_25, .ref h0_26, .int 0, .int 0, .ref h0_29, .ref h0_30, .ref h0_31, .ref h0_32, .int 0, .long 0, .long 0, .long 0, .long 0, .int 0, .ref h0_39, .ref h0_40, .int 0, .ref h0_42, .int 0, .ref h0_44, .ref h0_45, .int 0, .int 0, .int 0, .int 0, .int 0, .int 0])), (h0_2, .inl (cI, 35942, .inl mrow))]) rfl (fun hP hD hS => ?_))
  obtain ⟨_, rfl, h4⟩ := hv2
  rcases h4 with ⟨rfl, h4⟩ | ⟨rfl, h4⟩
  · refine lv_if_eq (tgt := 29) hx hb dX12_field_14 (by decide) (fun c => absurd c (by decide)) (fun _ => ?_)
    refine lv_iload_n hx hb dX12_field_17 rfl (lv_at hl 3 rfl) ?_
    refine lv_i2l hx hb dX12_field_18 rfl ?_
    refine lv_lconst (v := 0) hx hb dX12_field_19 (by decide) ?_
    refine lv_ldc2 (v := 100000) hx hb hown (hts _ (dmem (j := 5) rfl)) dX12_field_20 ?_
    refine goS (As := [.long (u3).toInt64, .long 0, .long 100000]) (rest := []) (wr := [(h0, .inr (12, [.int 0, .int 0, .ref h0_2, .ref h0_3, .ref h0_4, .ref h0_5, .int 0, .int 0, .int 0, .ref h0_9, .ref h0_10, .ref h0_11, .int 0, .int 0, .int 0, .int 0, .long 0, .int (-1), .int 0, .int 0, .ref h0_20, .int 0, .ref h0_22, .ref h0_23, .int 0, .ref h0_25, .ref h0_26, .int 0, .int 0, .ref h0_29, .ref h0_30, .ref h0_31, .ref h0_32, .int 0, .long 0, .long 0, .long 0, .long 0, .int 0, .ref h0_39, .ref h0_40, .int 0, .ref h0_42, .int 0, .ref h0_44, .ref h0_45, .int 0, .int 0, .int 0, .int 0, .int 0, .int 0])), (h0_2, .inl (cI, 35942, .inl mrow))]) ⟨hx, hb, hml, hown, hts⟩ (c_X12_in l G cI cJ cZ cD cR cT (u3).toInt64 0 100000 u3.toInt 0 100000 _ (Int32.toInt_toInt64 u3) (by decide) (by decide)) (va_cwS 3 hts gv_X12_field_90_X12_in rfl rfl rfl (by decide +kernel) ⟨Nat.le_of_ble_eq_true rfl, Nat.le_of_ble_eq_true rfl⟩) hKK hP hD hS hA [] [0, 1] rfl rfl (by decide +kernel) (by decide +kernel) (by decide +kernel) rfl hl.1 rfl (lv_room (Nat.le_of_ble_eq_true rfl)) dX12_field_23 ⟨Nat.le_of_ble_eq_true rfl, Nat.le_of_ble_eq_true rfl⟩ (fun v6 q5 gq5 H locs hv6 => appW (ws' := [(h0, .inr (12, [.int 0, .int 0, .ref h0_2, .ref h0_3, .ref h0_4, .ref h0_5, .int 0, .int 0, .int 0, .ref h0_9, .ref h0_10, .ref h0_11, .int 0, .int 0, .int 0, .int 0, .long 0, .int (-1), .int 0, .int 0, .ref h0_20, .int 0, .ref h0_22, .ref h0_23, .int 0, .ref h0_25, .ref h0_26, .int 0, .int 0, .ref h0_29, .ref h0_30, .ref h0_31, .ref h0_32, .int 0, .long 0, .long 0, .long 0, .long 0, .int 0, .ref h0_39, .ref h0_40, .int 0, .ref h0_42, .int 0, .ref h0_44, .ref h0_45, .int 0, .int 0, .int 0, .int 0, .int 0, .int 0])), (h0_2, .inl (cI, 35942, .inl mrow))]) rfl (fun hP hD hS => ?_))
    obtain ⟨_, rfl, h8⟩ := hv6
    rcases h8 with ⟨rfl, h8⟩ | ⟨rfl, h8⟩
    · refine lv_if_ne (tgt := 35) hx hb dX12_field_26 (by decide) (fun _ => ?_) (fun c => absurd c (by decide))
      refine lv_aload_n hx hb dX12_field_35 rfl (lv_at hl 0 rfl) ?_
      refine lv_iload_n hx hb dX12_field_36 rfl (lv_at hl 1 rfl) ?_
      refine goV (As := [.int u1]) (rest := []) (wr := []) ⟨hx, hb, hml, hown, hts⟩ (c_X12_isEstate_v1 l G cI cJ cZ cD cR cT h0 u1 h0_2 h0_3 h0_4 h0_5 h0_9 h0_10 h0_11 h0_20 h0_22 h0_23 h0_25 h0_26 h0_29 h0_30 h0_31 h0_32 h0_39 h0_40 h0_42 h0_44 h0_45 _) (cwV 1 hts gv_X12_field_132_X12_isEstate_v1 rfl rfl rfl (by decide +kernel) ⟨Nat.le_of_ble_eq_true rfl, Nat.le_of_ble_eq_true rfl⟩) 0 rfl rfl rfl hKK hP hD hS hA [0, 1] [] rfl rfl (by decide +kernel) (by decide +kernel) (by decide +kernel) rfl hl.1 rfl (lv_room (Nat.le_of_ble_eq_true rfl)) dX12_field_37 ⟨Nat.le_of_ble_eq_true rfl, Nat.le_of_ble_eq_true rfl⟩ (fun v10 q9 gq9 H locs hv10 => appW (ws' := [(h0, .inr (12, [.int 0, .int 0, .ref h0_2, .ref h0_3, .ref h0_4, .ref h0_5, .int 0, .int 0, .int 0, .ref h0_9, .ref h0_10, .ref h0_11, .int 0, .int 0, .int 0, .int 0, .long 0, .int (-1), .int 0, .int 0, .ref h0_20, .int 0, .ref h0_22, .ref h0_23, .int 0, .ref h0_25, .ref h0_26, .int 0, .int 0, .ref h0_29, .ref h0_30, .ref h0_31, .ref h0_32, .int 0, .long 0, .long 0, .long 0, .long 0, .int 0, .ref h0_39, .ref h0_40, .int 0, .ref h0_42, .int 0, .ref h0_44, .ref h0_45, .int 0, .int 0, .int 0, .int 0, .int 0, .int 0])), (h0_2, .inl (cI, 35942, .inl mrow))]) rfl (fun hP hD hS => ?_))
      obtain ⟨_, rfl, rfl⟩ := hv10
      refine lv_if_eq (tgt := 58) hx hb dX12_field_40 (by decide) (fun _ => ?_) (fun c => absurd c (by decide))
      refine lv_aload_n hx hb dX12_field_58 rfl (lv_at hl 0 rfl) ?_
      refine lv_bipush (v := (-2)) hx hb dX12_field_59 (by decide) ?_
      refine goV (As := [.int (-2)]) (rest := []) (wr := [(h0_2, .inl (cI, 35942, .inl mrow))]) ⟨hx, hb, hml, hown, hts⟩ (c_X12_told_v3 l G cI cJ cZ cD cR cT h0 h0_2 h0_3 h0_4 h0_5 h0_9 h0_10 h0_11 h0_20 h0_22 h0_23 h0_25 h0_26 h0_29 h0_30 h0_31 h0_32 h0_39 h0_40 h0_42 h0_44 h0_45 _) (cwV 1 hts gv_X12_field_94_X12_told_v3 rfl rfl rfl (by decide +kernel) ⟨Nat.le_of_ble_eq_true rfl, Nat.le_of_ble_eq_true rfl⟩) 0 rfl rfl rfl hKK hP hD hS hA [0] [1] rfl rfl (by decide +kernel) (by decide +kernel) (by decide +kernel) rfl hl.1 rfl (lv_room (Nat.le_of_ble_eq_true rfl)) dX12_field_61 ⟨Nat.le_of_ble_eq_true rfl, Nat.le_of_ble_eq_true rfl⟩ (fun v13 q12 gq12 H locs hv13 => appW (ws' := [(h0_2, .inl (cI, 35942, .inl mrow)), (h0, .inr (12, [.int 0, .int (-2), .ref h0_2, .ref h0_3, .ref h0_4, .ref h0_5, .int 0, .int 0, .int 0, .ref h0_9, .ref h0_10, .ref h0_11, .int 0, .int 0, .int 0, .int 0, .long 0, .int (-1), .int 0, .int 0, .ref h0_20, .int 0, .ref h0_22, .ref h0_23, .int 0, .ref h0_25, .ref h0_26, .int 0, .int 0, .ref h0_29, .ref h0_30, .ref h0_31, .ref h0_32, .int 0, .long 0, .long 0, .long 0, .long 0, .int 0, .ref h0_39, .ref h0_40, .int 0, .ref h0_42, .int 0, .ref h0_44, .ref h0_45, .int 0, .int 0, .int 0, .int 0, .int 0, .int 0]))]) rfl (fun hP hD hS => ?_))
      obtain ⟨_, rfl, rfl⟩ := hv13
      exact retI hx hb hr hlocks ⟨_, rfl, by have hz0 : (0 : Int32).toInt = 0 := rfl; have hz1 : (1 : Int32).toInt = 1 := rfl; unfold F_field; (repeat' split) <;> first | rfl | (exfalso; omega)⟩ hP hD hS (fun _ => 0) (fun _ _ => 0) [] (by decide +kernel) rfl dX12_field_64
    · refine lv_if_ne (tgt := 35) hx hb dX12_field_26 (by decide) (fun c => absurd c (by decide)) (fun _ => ?_)
      refine lv_aload_n hx hb dX12_field_29 rfl (lv_at hl 0 rfl) ?_
      refine lv_iconst (v := (-1)) hx hb dX12_field_30 (by decide) ?_
      refine goV (As := [.int (-1)]) (rest := []) (wr := [(h0_2, .inl (cI, 35942, .inl mrow))]) ⟨hx, hb, hml, hown, hts⟩ (c_X12_told_v2 l G cI cJ cZ cD cR cT h0 h0_2 h0_3 h0_4 h0_5 h0_9 h0_10 h0_11 h0_20 h0_22 h0_23 h0_25 h0_26 h0_29 h0_30 h0_31 h0_32 h0_39 h0_40 h0_42 h0_44 h0_45 _) (cwV 1 hts gv_X12_field_94_X12_told_v2 rfl rfl rfl (by decide +kernel) ⟨Nat.le_of_ble_eq_true rfl, Nat.le_of_ble_eq_true rfl⟩) 0 rfl rfl rfl hKK hP hD hS hA [0] [1] rfl rfl (by decide +kernel) (by decide +kernel) (by decide +kernel) rfl hl.1 rfl (lv_room (Nat.le_of_ble_eq_true rfl)) dX12_field_31 ⟨Nat.le_of_ble_eq_true rfl, Nat.le_of_ble_eq_true rfl⟩ (fun v16 q15 gq15 H locs hv16 => appW (ws' := [(h0_2, .inl (cI, 35942, .inl mrow)), (h0, .inr (12, [.int 0, .int (-1), .ref h0_2, .ref h0_3, .ref h0_4, .ref h0_5, .int 0, .int 0, .int 0, .ref h0_9, .ref h0_10, .ref h0_11, .int 0, .int 0, .int 0, .int 0, .long 0, .int (-1), .int 0, .int 0, .ref h0_20, .int 0, .ref h0_22, .ref h0_23, .int 0, .ref h0_25, .ref h0_26, .int 0, .int 0, .ref h0_29, .ref h0_30, .ref h0_31, .ref h0_32, .int 0, .long 0, .long 0, .long 0, .long 0, .int 0, .ref h0_39, .ref h0_40, .int 0, .ref h0_42, .int 0, .ref h0_44, .ref h0_45, .int 0, .int 0, .int 0, .int 0, .int 0, .int 0]))]) rfl (fun hP hD hS => ?_))
      obtain ⟨_, rfl, rfl⟩ := hv16
      exact retI hx hb hr hlocks ⟨_, rfl, by have hz0 : (0 : Int32).toInt = 0 := rfl; have hz1 : (1 : Int32).toInt = 1 := rfl; unfold F_field; (repeat' split) <;> first | rfl | (exfalso; omega)⟩ hP hD hS (fun _ => 0) (fun _ _ => 0) [] (by decide +kernel) rfl dX12_field_34
  · refine lv_if_eq (tgt := 29) hx hb dX12_field_14 (by decide) (fun _ => ?_) (fun c => absurd c (by decide))
    refine lv_aload_n hx hb dX12_field_29 rfl (lv_at hl 0 rfl) ?_
    refine lv_iconst (v := (-1)) hx hb dX12_field_30 (by decide) ?_
    refine goV (As := [.int (-1)]) (rest := []) (wr := [(h0_2, .inl (cI, 35942, .inl mrow))]) ⟨hx, hb, hml, hown, hts⟩ (c_X12_told_v2 l G cI cJ cZ cD cR cT h0 h0_2 h0_3 h0_4 h0_5 h0_9 h0_10 h0_11 h0_20 h0_22 h0_23 h0_25 h0_26 h0_29 h0_30 h0_31 h0_32 h0_39 h0_40 h0_42 h0_44 h0_45 _) (cwV 1 hts gv_X12_field_94_X12_told_v2 rfl rfl rfl (by decide +kernel) ⟨Nat.le_of_ble_eq_true rfl, Nat.le_of_ble_eq_true rfl⟩) 0 rfl rfl rfl hKK hP hD hS hA [0] [1] rfl rfl (by decide +kernel) (by decide +kernel) (by decide +kernel) rfl hl.1 rfl (lv_room (Nat.le_of_ble_eq_true rfl)) dX12_field_31 ⟨Nat.le_of_ble_eq_true rfl, Nat.le_of_ble_eq_true rfl⟩ (fun v19 q18 gq18 H locs hv19 => appW (ws' := [(h0_2, .inl (cI, 35942, .inl mrow)), (h0, .inr (12, [.int 0, .int (-1), .ref h0_2, .ref h0_3, .ref h0_4, .ref h0_5, .int 0, .int 0, .int 0, .ref h0_9, .ref h0_10, .ref h0_11, .int 0, .int 0, .int 0, .int 0, .long 0, .int (-1), .int 0, .int 0, .ref h0_20, .int 0, .ref h0_22, .ref h0_23, .int 0, .ref h0_25, .ref h0_26, .int 0, .int 0, .ref h0_29, .ref h0_30, .ref h0_31, .ref h0_32, .int 0, .long 0, .long 0, .long 0, .long 0, .int 0, .ref h0_39, .ref h0_40, .int 0, .ref h0_42, .int 0, .ref h0_44, .ref h0_45, .int 0, .int 0, .int 0, .int 0, .int 0, .int 0]))]) rfl (fun hP hD hS => ?_))
    obtain ⟨_, rfl, rfl⟩ := hv19
    exact retI hx hb hr hlocks ⟨_, rfl, by have hz0 : (0 : Int32).toInt = 0 := rfl; have hz1 : (1 : Int32).toInt = 1 := rfl; unfold F_field; (repeat' split) <;> first | rfl | (exfalso; omega)⟩ hP hD hS (fun _ => 0) (fun _ _ => 0) [] (by decide +kernel) rfl dX12_field_34
def d_X12_of : List Cond := [Cond.fieldLink RX12 82 "NoRentModel" "thrown" "I", Cond.methodLink RX12 111 yX12_isPerson, Cond.instanceMethod yX12_isPerson, Cond.selects RX12 yX12_isPerson yX12_isPerson, Cond.initialized RX12]
def v_X12_of : List Cond := Cond.code yX12_of cX12_of 4 (some .int) :: (d_X12_of ++ (wsX120 ++ (v_X12_isPerson_v1 ++ ([] : List Cond))))
theorem cm_X12_of_0 : ∀ w ∈ wsX120, w ∈ v_X12_of := fun _ h => List.mem_cons_of_mem _ (List.mem_append_right _ (List.mem_append_left _ h))
theorem cm_X12_of_1 : ∀ w ∈ v_X12_isPerson_v1, w ∈ v_X12_of := fun _ h => List.mem_cons_of_mem _ (List.mem_append_right _ (List.mem_append_right _ (List.mem_append_left _ h)))
theorem gd_X12_of : Gd v_X12_of := gd_mk (by decide +kernel) (gd_app gd_X12 (gd_app gd_X12_isPerson_v1 gd_nil))
set_option maxRecDepth 20000 in
theorem gv_X12_of_111_X12_isPerson_v1 : GoodIn v_X12_of (wsV RX12 111 RX12 yX12_isPerson v_X12_isPerson_v1) := goodIn_app (goodIn_of _ (by decide +kernel)) (gi cm_X12_of_1 gd_X12_isPerson_v1)
set_option maxHeartbeats 4000000 in
set_option maxRecDepth 100000 in
theorem c_X12_of (l : Launch) (G : va_G) (cI cJ cZ cD cR cT : ClassId) (h0 : Nat) (u1 : Int32) (u2 : Int32) (h0_2 : Nat) (h0_3 : Nat) (h0_4 : Nat) (h0_5 : Nat) (h0_9 : Nat) (h0_10 : Nat) (h0_11 : Nat) (h0_20 : Nat) (h0_22 : Nat) (h0_23 : Nat) (h0_25 : Nat) (h0_26 : Nat) (h0_29 : Nat) (h0_30 : Nat) (h0_31 : Nat) (h0_32 : Nat) (h0_39 : Nat) (h0_40 : Nat) (h0_42 : Nat) (h0_44 : Nat) (h0_45 : Nat) (sz : Nat) : Met l yX12_of v_X12_of ({ frames := 3, cells := 0, slots := 0, locals := 86 }) (va_Pc [.ref h0, .int u1, .int u2] (PreW G (tys6 cI cJ cZ cD cR cT) [(h0, .inr (12, [.int 0, .int 0, .ref h0_2, .ref h0_3, .ref h0_4, .ref h0_5, .int 0, .int 0, .int 0, .ref h0_9, .ref h0_10, .ref h0_11, .int 0, .int 0, .int 0, .int 0, .long 0, .int (-1), .int 0, .int 0, .ref h0_20, .int 0, .ref h0_22, .ref h0_23, .int 0, .ref h0_25, .ref h0_26, .int 0, .int 0, .ref h0_29, .ref h0_30, .ref h0_31, .ref h0_32, .int 0, .long 0, .long 0, .long 0, .long 0, .int 0, .ref h0_39, .ref h0_40, .int 0, .ref h0_42, .int 0, .ref h0_44, .ref h0_45, .int 0, .int 0, .int 0, .int 0, .int 0, .int 0])), (h0_2, .inl (cI, 35942, .inl mrow))] sz)) (QW (RI (fun r => r = F_of u1 u2)) G (va_A [(h0, .inr (12, [.int 0, .int 0, .ref h0_2, .ref h0_3, .ref h0_4, .ref h0_5, .int 0, .int 0, .int 0, .ref h0_9, .ref h0_10, .ref h0_11, .int 0, .int 0, .int 0, .int 0, .long 0, .int (-1), .int 0, .int 0, .ref h0_20, .int 0, .ref h0_22, .ref h0_23, .int 0, .ref h0_25, .ref h0_26, .int 0, .int 0, .ref h0_29, .ref h0_30, .ref h0_31, .ref h0_32, .int 0, .long 0, .long 0, .long 0, .long 0, .int 0, .ref h0_39, .ref h0_40, .int 0, .ref h0_42, .int 0, .ref h0_44, .ref h0_45, .int 0, .int 0, .int 0, .int 0, .int 0, .int 0])), (h0_2, .inl (cI, 35942, .inl mrow))] sz) (fun q g => [])) 0 0 (va_A [(h0, .inr (12, [.int 0, .int 0, .ref h0_2, .ref h0_3, .ref h0_4, .ref h0_5, .int 0, .int 0, .int 0, .ref h0_9, .ref h0_10, .ref h0_11, .int 0, .int 0, .int 0, .int 0, .long 0, .int (-1), .int 0, .int 0, .ref h0_20, .int 0, .ref h0_22, .ref h0_23, .int 0, .ref h0_25, .ref h0_26, .int 0, .int 0, .ref h0_29, .ref h0_30, .ref h0_31, .ref h0_32, .int 0, .long 0, .long 0, .long 0, .long 0, .int 0, .ref h0_39, .ref h0_40, .int 0, .ref h0_42, .int 0, .ref h0_44, .ref h0_45, .int 0, .int 0, .int 0, .int 0, .int 0, .int 0])), (h0_2, .inl (cI, 35942, .inl mrow))] sz) := by
  refine metW (cc := cX12_of) (maxL := 4) (ret := (some .int)) (by decide) rfl (Nat.le_of_ble_eq_true rfl) ?_
  intro p e s m below meth c A ls hx hb hr hml hown hts hlocks hin hKK hP hD hA hS hl
  have hK := hKK.1
  have hown : s.vm.findClass RX12 = some m.cls := hown
  have hl : lv_has ls 4 [(0, .ref h0), (1, .int u1), (2, .int u2)] := hl
  have hP : va_P G vwCl [(h0, .inr (12, [.int 0, .int 0, .ref h0_2, .ref h0_3, .ref h0_4, .ref h0_5, .int 0, .int 0, .int 0, .ref h0_9, .ref h0_10, .ref h0_11, .int 0, .int 0, .int 0, .int 0, .long 0, .int (-1), .int 0, .int 0, .ref h0_20, .int 0, .ref h0_22, .ref h0_23, .int 0, .ref h0_25, .ref h0_26, .int 0, .int 0, .ref h0_29, .ref h0_30, .ref h0_31, .ref h0_32, .int 0, .long 0, .long 0, .long 0, .long 0, .int 0, .ref h0_39, .ref h0_40, .int 0, .ref h0_42, .int 0, .ref h0_44, .ref h0_45, .int 0, .int 0, .int 0, .int 0, .int 0, .int 0])), (h0_2, .inl (cI, 35942, .inl mrow))] s.heap := hP
  have hD : va_D A [(h0, .inr (12, [.int 0, .int 0, .ref h0_2, .ref h0_3, .ref h0_4, .ref h0_5, .int 0, .int 0, .int 0, .ref h0_9, .ref h0_10, .ref h0_11, .int 0, .int 0, .int 0, .int 0, .long 0, .int (-1), .int 0, .int 0, .ref h0_20, .int 0, .ref h0_22, .ref h0_23, .int 0, .ref h0_25, .ref h0_26, .int 0, .int 0, .ref h0_29, .ref h0_30, .ref h0_31, .ref h0_32, .int 0, .long 0, .long 0, .long 0, .long 0, .int 0, .ref h0_39, .ref h0_40, .int 0, .ref h0_42, .int 0, .ref h0_44, .ref h0_45, .int 0, .int 0, .int 0, .int 0, .int 0, .int 0])), (h0_2, .inl (cI, 35942, .inl mrow))] := hD
  refine lv_aload_n hx hb dX12_of_0 rfl (lv_at hl 0 rfl) ?_
  refine lv_iconst (v := 0) hx hb dX12_of_1 (by decide) ?_
  refine va_put (D := G) (ci := 12) (v := .int 0) (ty := .int) (C := RX12) (T := TX12) (N := 52) hx hb hts cm_X12_of_0 tyX12 tyX12_ok nmX12 hown hK hP hD hS 0 rfl rfl 0 (by decide) (hts _ (dmem (j := 0) rfl)) (fun _ h9 => h9) rfl (by decide +kernel) rfl rfl (Nat.le_of_ble_eq_true rfl) dX12_of_2 (fun H locs => setW (ws' := [(h0, .inr (12, [.int 0, .int 0, .ref h0_2, .ref h0_3, .ref h0_4, .ref h0_5, .int 0, .int 0, .int 0, .ref h0_9, .ref h0_10, .ref h0_11, .int 0, .int 0, .int 0, .int 0, .long 0, .int (-1), .int 0, .int 0, .ref h0_20, .int 0, .ref h0_22, .ref h0_23, .int 0, .ref h0_25, .ref h0_26, .int 0, .int 0, .ref h0_29, .ref h0_30, .ref h0_31, .ref h0_32, .int 0, .long 0, .long 0, .long 0, .long 0, .int 0, .ref h0_39, .ref h0_40, .int 0, .ref h0_42, .int 0, .ref h0_44, .ref h0_45, .int 0, .int 0, .int 0, .int 0, .int 0, .int 0])), (h0_2, .inl (cI, 35942, .inl mrow))]) rfl (fun hP hD hS => ?_))
  refine lv_aload_n hx hb dX12_of_5 rfl (lv_at hl 0 rfl) ?_
  refine lv_iload_n hx hb dX12_of_6 rfl (lv_at hl 1 rfl) ?_
  refine goV (As := [.int u1]) (rest := []) (wr := []) ⟨hx, hb, hml, hown, hts⟩ (c_X12_isPerson_v1 l G cI cJ cZ cD cR cT h0 u1 h0_2 h0_3 h0_4 h0_5 h0_9 h0_10 h0_11 h0_20 h0_22 h0_23 h0_25 h0_26 h0_29 h0_30 h0_31 h0_32 h0_39 h0_40 h0_42 h0_44 h0_45 _) (cwV 1 hts gv_X12_of_111_X12_isPerson_v1 rfl rfl rfl (by decide +kernel) ⟨Nat.le_of_ble_eq_true rfl, Nat.le_of_ble_eq_true rfl⟩) 0 rfl rfl rfl hKK hP hD hS hA [0, 1] [] rfl rfl (by decide +kernel) (by decide +kernel) (by decide +kernel) rfl hl.1 rfl (lv_room (Nat.le_of_ble_eq_true rfl)) dX12_of_7 ⟨Nat.le_of_ble_eq_true rfl, Nat.le_of_ble_eq_true rfl⟩ (fun v2 q1 gq1 H locs hv2 => appW (ws' := [(h0, .inr (12, [.int 0, .int 0, .ref h0_2, .ref h0_3, .ref h0_4, .ref h0_5, .int 0, .int 0, .int 0, .ref h0_9, .ref h0_10, .ref h0_11, .int 0, .int 0, .int 0, .int 0, .long 0, .int (-1), .int 0, .int 0, .ref h0_20, .int 0, .ref h0_22, .ref h0_23, .int 0, .ref h0_25, .ref h0_26, .int 0, .int 0, .ref h0_29, .ref h0_30, .ref h0_31, .ref h0_32, .int 0, .long 0, .long 0, .long 0, .long 0, .int 0, .ref h0_39, .ref h0_40, .int 0, .ref h0_42, .int 0, .ref h0_44, .ref h0_45, .int 0, .int 0, .int 0, .int 0, .int 0, .int 0])), (h0_2, .inl (cI, 35942, .inl mrow))]) rfl (fun hP hD hS => ?_))
  obtain ⟨_, rfl, rfl⟩ := hv2
  refine lv_if_ne (tgt := 15) hx hb dX12_of_10 (by decide) (fun c => absurd c (by decide)) (fun _ => ?_)
  refine lv_iconst (v := (-1)) hx hb dX12_of_13 (by decide) ?_
  exact retI hx hb hr hlocks ⟨_, rfl, by have hz0 : (0 : Int32).toInt = 0 := rfl; have hz1 : (1 : Int32).toInt = 1 := rfl; unfold F_of; (repeat' split) <;> first | rfl | (exfalso; omega)⟩ hP hD hS (fun _ => 0) (fun _ _ => 0) [] (by decide +kernel) rfl dX12_of_14
def d_X12_isField_v1 : List Cond := [Cond.fieldLink RX12 8 "NoRentModel" "row" "[I", Cond.methodLink RX12 90 yX12_in, Cond.static yX12_in, Cond.initialized RX12]
def v_X12_isField_v1 : List Cond := Cond.code yX12_isField cX12_isField 2 (some .boolean) :: (d_X12_isField_v1 ++ (wsX120 ++ (v_X12_in ++ ([] : List Cond))))
theorem cm_X12_isField_v1_0 : ∀ w ∈ wsX120, w ∈ v_X12_isField_v1 := fun _ h => List.mem_cons_of_mem _ (List.mem_append_right _ (List.mem_append_left _ h))
theorem cm_X12_isField_v1_1 : ∀ w ∈ v_X12_in, w ∈ v_X12_isField_v1 := fun _ h => List.mem_cons_of_mem _ (List.mem_append_right _ (List.mem_append_right _ (List.mem_append_left _ h)))
theorem gd_X12_isField_v1 : Gd v_X12_isField_v1 := gd_mk (by decide +kernel) (gd_app gd_X12 (gd_app gd_X12_in gd_nil))
set_option maxRecDepth 20000 in
theorem gv_X12_isField_v1_90_X12_in : GoodIn v_X12_isField_v1 (va_wsS RX12 90 yX12_in v_X12_in) := goodIn_app (goodIn_of _ (by decide +kernel)) (gi cm_X12_isField_v1_1 gd_X12_in)
set_option maxHeartbeats 4000000 in
set_option maxRecDepth 100000 in
theorem c_X12_isField_v1 (l : Launch) (G : va_G) (cI cJ cZ cD cR cT : ClassId) (h0 : Nat) (n1 : Int32) (h0_2 : Nat) (h0_3 : Nat) (h0_4 : Nat) (h0_5 : Nat) (h0_9 : Nat) (h0_10 : Nat) (h0_11 : Nat) (h0_20 : Nat) (h0_22 : Nat) (h0_23 : Nat) (h0_25 : Nat) (h0_26 : Nat) (h0_29 : Nat) (h0_30 : Nat) (h0_31 : Nat) (h0_32 : Nat) (h0_39 : Nat) (h0_40 : Nat) (h0_42 : Nat) (h0_44 : Nat) (h0_45 : Nat) (sz : Nat) : Met l yX12_isField v_X12_isField_v1 ({ frames := 2, cells := 0, slots := 0, locals := 65 }) (va_Pc [.ref h0, .int n1] (PreW G (tys6 cI cJ cZ cD cR cT) [(h0, .inr (12, [.int 0, .int 0, .ref h0_2, .ref h0_3, .ref h0_4, .ref h0_5, .int 0, .int 0, .int 0, .ref h0_9, .ref h0_10, .ref h0_11, .int 0, .int 0, .int 0, .int 0, .long 0, .int (-1), .int 0, .int 0, .ref h0_20, .int 0, .ref h0_22, .ref h0_23, .int 0, .ref h0_25, .ref h0_26, .int 0, .int 0, .ref h0_29, .ref h0_30, .ref h0_31, .ref h0_32, .int 0, .long 0, .long 0, .long 0, .long 0, .int 0, .ref h0_39, .ref h0_40, .int 0, .ref h0_42, .int 0, .ref h0_44, .ref h0_45, .int 0, .int 0, .int 0, .int 0, .int 0, .int 0])), (h0_2, .inl (cI, 35942, .inl mrow))] sz)) (QW (RI (fun r => r = 0)) G (va_A [(h0, .inr (12, [.int 0, .int 0, .ref h0_2, .ref h0_3, .ref h0_4, .ref h0_5, .int 0, .int 0, .int 0, .ref h0_9, .ref h0_10, .ref h0_11, .int 0, .int 0, .int 0, .int 0, .long 0, .int (-1), .int 0, .int 0, .ref h0_20, .int 0, .ref h0_22, .ref h0_23, .int 0, .ref h0_25, .ref h0_26, .int 0, .int 0, .ref h0_29, .ref h0_30, .ref h0_31, .ref h0_32, .int 0, .long 0, .long 0, .long 0, .long 0, .int 0, .ref h0_39, .ref h0_40, .int 0, .ref h0_42, .int 0, .ref h0_44, .ref h0_45, .int 0, .int 0, .int 0, .int 0, .int 0, .int 0])), (h0_2, .inl (cI, 35942, .inl mrow))] sz) (fun q g => [(h0, .inr (12, [.int 0, .int 0, .ref h0_2, .ref h0_3, .ref h0_4, .ref h0_5, .int 0, .int 0, .int 0, .ref h0_9, .ref h0_10, .ref h0_11, .int 0, .int 0, .int 0, .int 0, .long 0, .int (-1), .int 0, .int 0, .ref h0_20, .int 0, .ref h0_22, .ref h0_23, .int 0, .ref h0_25, .ref h0_26, .int 0, .int 0, .ref h0_29, .ref h0_30, .ref h0_31, .ref h0_32, .int 0, .long 0, .long 0, .long 0, .long 0, .int 0, .ref h0_39, .ref h0_40, .int 0, .ref h0_42, .int 0, .ref h0_44, .ref h0_45, .int 0, .int 0, .int 0, .int 0, .int 0, .int 0])), (h0_2, .inl (cI, 35942, .inl mrow))])) 0 0 (va_A [(h0, .inr (12, [.int 0, .int 0, .ref h0_2, .ref h0_3, .ref h0_4, .ref h0_5, .int 0, .int 0, .int 0, .ref h0_9, .ref h0_10, .ref h0_11, .int 0, .int 0, .int 0, .int 0, .long 0, .int (-1), .int 0, .int 0, .ref h0_20, .int 0, .ref h0_22, .ref h0_23, .int 0, .ref h0_25, .ref h0_26, .int 0, .int 0, .ref h0_29, .ref h0_30, .ref h0_31, .ref h0_32, .int 0, .long 0, .long 0, .long 0, .long 0, .int 0, .ref h0_39, .ref h0_40, .int 0, .ref h0_42, .int 0, .ref h0_44, .ref h0_45, .int 0, .int 0, .int 0, .int 0, .int 0, .int 0])), (h0_2, .inl (cI, 35942, .inl mrow))] sz) := by
  refine metW (cc := cX12_isField) (maxL := 2) (ret := (some .boolean)) (by decide) rfl (Nat.le_of_ble_eq_true rfl) ?_
  intro p e s m below meth c A ls hx hb hr hml hown hts hlocks hin hKK hP hD hA hS hl
  have hK := hKK.1
  have hown : s.vm.findClass RX12 = some m.cls := hown
  have hl : lv_has ls 2 [(0, .ref h0), (1, .int n1)] := hl
  have hP : va_P G vwCl [(h0, .inr (12, [.int 0, .int 0, .ref h0_2, .ref h0_3, .ref h0_4, .ref h0_5, .int 0, .int 0, .int 0, .ref h0_9, .ref h0_10, .ref h0_11, .int 0, .int 0, .int 0, .int 0, .long 0, .int (-1), .int 0, .int 0, .ref h0_20, .int 0, .ref h0_22, .ref h0_23, .int 0, .ref h0_25, .ref h0_26, .int 0, .int 0, .ref h0_29, .ref h0_30, .ref h0_31, .ref h0_32, .int 0, .long 0, .long 0, .long 0, .long 0, .int 0, .ref h0_39, .ref h0_40, .int 0, .ref h0_42, .int 0, .ref h0_44, .ref h0_45, .int 0, .int 0, .int 0, .int 0, .int 0, .int 0])), (h0_2, .inl (cI, 35942, .inl mrow))] s.heap := hP
  have hD : va_D A [(h0, .inr (12, [.int 0, .int 0, .ref h0_2, .ref h0_3, .ref h0_4, .ref h0_5, .int 0, .int 0, .int 0, .ref h0_9, .ref h0_10, .ref h0_11, .int 0, .int 0, .int 0, .int 0, .long 0, .int (-1), .int 0, .int 0, .ref h0_20, .int 0, .ref h0_22, .ref h0_23, .int 0, .ref h0_25, .ref h0_26, .int 0, .int 0, .ref h0_29, .ref h0_30, .ref h0_31, .ref h0_32, .int 0, .long 0, .long 0, .long 0, .long 0, .int 0, .ref h0_39, .ref h0_40, .int 0, .ref h0_42, .int 0, .ref h0_44, .ref h0_45, .int 0, .int 0, .int 0, .int 0, .int 0, .int 0])), (h0_2, .inl (cI, 35942, .inl mrow))] := hD
  refine lv_iload_n hx hb dX12_isField_0 rfl (lv_at hl 1 rfl) ?_
  refine lv_i2l hx hb dX12_isField_1 rfl ?_
  refine lv_lconst (v := 0) hx hb dX12_isField_2 (by decide) ?_
  refine lv_aload_n hx hb dX12_isField_3 rfl (lv_at hl 0 rfl) ?_
  refine va_get (D := G) (ci := 12) (v := .ref h0_2) (C := RX12) (T := TX12) (N := 52) hx hb hts cm_X12_isField_v1_0 hown hK hP 0 rfl rfl 2 (by decide) (hts _ (dmem (j := 0) rfl)) (fun _ h9 => h9) rfl dX12_isField_4 ?_
  refine lv_iconst (v := 2) hx hb dX12_isField_7 (by decide) ?_
  refine va_iald hx hb hK hP 1 0 rfl rfl (vp_in_iff.mpr (by decide)) dX12_isField_8 ?_
  refine lv_topi (fun x1 ex1 => ?_)
  obtain rfl : 0 = x1 := (ex1.trans (by first | rfl | decide | (simp [upd, mrow]; done))).symm
  refine lv_i2l (v := 0) hx hb dX12_isField_9 (by decide) ?_
  refine lv_lconst (v := 1) hx hb dX12_isField_10 (by decide) ?_
  refine lv_lsub hx hb dX12_isField_11 ?_
  refine lv_topl (fun x2 ex2 => ?_)
  obtain rfl : (-1) = x2 := (ex2.trans (by decide)).symm
  refine goS (As := [.long (n1).toInt64, .long 0, .long (-1)]) (rest := []) (wr := [(h0, .inr (12, [.int 0, .int 0, .ref h0_2, .ref h0_3, .ref h0_4, .ref h0_5, .int 0, .int 0, .int 0, .ref h0_9, .ref h0_10, .ref h0_11, .int 0, .int 0, .int 0, .int 0, .long 0, .int (-1), .int 0, .int 0, .ref h0_20, .int 0, .ref h0_22, .ref h0_23, .int 0, .ref h0_25, .ref h0_26, .int 0, .int 0, .ref h0_29, .ref h0_30, .ref h0_31, .ref h0_32, .int 0, .long 0, .long 0, .long 0, .long 0, .int 0, .ref h0_39, .ref h0_40, .int 0, .ref h0_42, .int 0, .ref h0_44, .ref h0_45, .int 0, .int 0, .int 0, .int 0, .int 0, .int 0])), (h0_2, .inl (cI, 35942, .inl mrow))]) ⟨hx, hb, hml, hown, hts⟩ (c_X12_in l G cI cJ cZ cD cR cT (n1).toInt64 0 (-1) n1.toInt 0 (-1) _ (Int32.toInt_toInt64 n1) (by decide) (by decide)) (va_cwS 3 hts gv_X12_isField_v1_90_X12_in rfl rfl rfl (by decide +kernel) ⟨Nat.le_of_ble_eq_true rfl, Nat.le_of_ble_eq_true rfl⟩) hKK hP hD hS hA [] [0, 1] rfl rfl (by decide +kernel) (by decide +kernel) (by decide +kernel) rfl hl.1 rfl (lv_room (Nat.le_of_ble_eq_true rfl)) dX12_isField_12 ⟨Nat.le_of_ble_eq_true rfl, Nat.le_of_ble_eq_true rfl⟩ (fun v4 q3 gq3 H locs hv4 => appW (ws' := [(h0, .inr (12, [.int 0, .int 0, .ref h0_2, .ref h0_3, .ref h0_4, .ref h0_5, .int 0, .int 0, .int 0, .ref h0_9, .ref h0_10, .ref h0_11, .int 0, .int 0, .int 0, .int 0, .long 0, .int (-1), .int 0, .int 0, .ref h0_20, .int 0, .ref h0_22, .ref h0_23, .int 0, .ref h0_25, .ref h0_26, .int 0, .int 0, .ref h0_29, .ref h0_30, .ref h0_31, .ref h0_32, .int 0, .long 0, .long 0, .long 0, .long 0, .int 0, .ref h0_39, .ref h0_40, .int 0, .ref h0_42, .int 0, .ref h0_44, .ref h0_45, .int 0, .int 0, .int 0, .int 0, .int 0, .int 0])), (h0_2, .inl (cI, 35942, .inl mrow))]) rfl (fun hP hD hS => ?_))
  obtain ⟨_, rfl, h6⟩ := hv4
  rcases h6 with ⟨rfl, h6⟩ | ⟨rfl, h6⟩
  · exfalso; omega
  · exact retZ hx hb hr hlocks (by decide) ⟨_, rfl, rfl⟩ hP hD hS (fun _ => 0) (fun _ _ => 0) [0, 1] (by decide +kernel) rfl dX12_isField_15
def d_X12_tells : List Cond := [Cond.fieldLink RX12 82 "NoRentModel" "thrown" "I", Cond.methodLink RX12 141 yX12_isField, Cond.instanceMethod yX12_isField, Cond.selects RX12 yX12_isField yX12_isField, Cond.initialized RX12]
def v_X12_tells : List Cond := Cond.code yX12_tells cX12_tells 5 (some .int) :: (d_X12_tells ++ (wsX120 ++ (v_X12_isField_v1 ++ ([] : List Cond))))
theorem cm_X12_tells_0 : ∀ w ∈ wsX120, w ∈ v_X12_tells := fun _ h => List.mem_cons_of_mem _ (List.mem_append_right _ (List.mem_append_left _ h))
theorem cm_X12_tells_1 : ∀ w ∈ v_X12_isField_v1, w ∈ v_X12_tells := fun _ h => List.mem_cons_of_mem _ (List.mem_append_right _ (List.mem_append_right _ (List.mem_append_left _ h)))
theorem gd_X12_tells : Gd v_X12_tells := gd_mk (by decide +kernel) (gd_app gd_X12 (gd_app gd_X12_isField_v1 gd_nil))
set_option maxRecDepth 20000 in
theorem gv_X12_tells_141_X12_isField_v1 : GoodIn v_X12_tells (wsV RX12 141 RX12 yX12_isField v_X12_isField_v1) := goodIn_app (goodIn_of _ (by decide +kernel)) (gi cm_X12_tells_1 gd_X12_isField_v1)
set_option maxHeartbeats 4000000 in
set_option maxRecDepth 100000 in
theorem c_X12_tells (l : Launch) (G : va_G) (cI cJ cZ cD cR cT : ClassId) (h0 : Nat) (u1 : Int32) (u2 : Int32) (h0_2 : Nat) (h0_3 : Nat) (h0_4 : Nat) (h0_5 : Nat) (h0_9 : Nat) (h0_10 : Nat) (h0_11 : Nat) (h0_20 : Nat) (h0_22 : Nat) (h0_23 : Nat) (h0_25 : Nat) (h0_26 : Nat) (h0_29 : Nat) (h0_30 : Nat) (h0_31 : Nat) (h0_32 : Nat) (h0_39 : Nat) (h0_40 : Nat) (h0_42 : Nat) (h0_44 : Nat) (h0_45 : Nat) (sz : Nat) : Met l yX12_tells v_X12_tells ({ frames := 3, cells := 0, slots := 0, locals := 86 }) (va_Pc [.ref h0, .int u1, .int u2] (PreW G (tys6 cI cJ cZ cD cR cT) [(h0, .inr (12, [.int 0, .int 0, .ref h0_2, .ref h0_3, .ref h0_4, .ref h0_5, .int 0, .int 0, .int 0, .ref h0_9, .ref h0_10, .ref h0_11, .int 0, .int 0, .int 0, .int 0, .long 0, .int (-1), .int 0, .int 0, .ref h0_20, .int 0, .ref h0_22, .ref h0_23, .int 0, .ref h0_25, .ref h0_26, .int 0, .int 0, .ref h0_29, .ref h0_30, .ref h0_31, .ref h0_32, .int 0, .long 0, .long 0, .long 0, .long 0, .int 0, .ref h0_39, .ref h0_40, .int 0, .ref h0_42, .int 0, .ref h0_44, .ref h0_45, .int 0, .int 0, .int 0, .int 0, .int 0, .int 0])), (h0_2, .inl (cI, 35942, .inl mrow))] sz)) (QW (RI (fun r => r = F_tells u1 u2)) G (va_A [(h0, .inr (12, [.int 0, .int 0, .ref h0_2, .ref h0_3, .ref h0_4, .ref h0_5, .int 0, .int 0, .int 0, .ref h0_9, .ref h0_10, .ref h0_11, .int 0, .int 0, .int 0, .int 0, .long 0, .int (-1), .int 0, .int 0, .ref h0_20, .int 0, .ref h0_22, .ref h0_23, .int 0, .ref h0_25, .ref h0_26, .int 0, .int 0, .ref h0_29, .ref h0_30, .ref h0_31, .ref h0_32, .int 0, .long 0, .long 0, .long 0, .long 0, .int 0, .ref h0_39, .ref h0_40, .int 0, .ref h0_42, .int 0, .ref h0_44, .ref h0_45, .int 0, .int 0, .int 0, .int 0, .int 0, .int 0])), (h0_2, .inl (cI, 35942, .inl mrow))] sz) (fun q g => [])) 0 0 (va_A [(h0, .inr (12, [.int 0, .int 0, .ref h0_2, .ref h0_3, .ref h0_4, .ref h0_5, .int 0, .int 0, .int 0, .ref h0_9, .ref h0_10, .ref h0_11, .int 0, .int 0, .int 0, .int 0, .long 0, .int (-1), .int 0, .int 0, .ref h0_20, .int 0, .ref h0_22, .ref h0_23, .int 0, .ref h0_25, .ref h0_26, .int 0, .int 0, .ref h0_29, .ref h0_30, .ref h0_31, .ref h0_32, .int 0, .long 0, .long 0, .long 0, .long 0, .int 0, .ref h0_39, .ref h0_40, .int 0, .ref h0_42, .int 0, .ref h0_44, .ref h0_45, .int 0, .int 0, .int 0, .int 0, .int 0, .int 0])), (h0_2, .inl (cI, 35942, .inl mrow))] sz) := by
  refine metW (cc := cX12_tells) (maxL := 5) (ret := (some .int)) (by decide) rfl (Nat.le_of_ble_eq_true rfl) ?_
  intro p e s m below meth c A ls hx hb hr hml hown hts hlocks hin hKK hP hD hA hS hl
  have hK := hKK.1
  have hown : s.vm.findClass RX12 = some m.cls := hown
  have hl : lv_has ls 5 [(0, .ref h0), (1, .int u1), (2, .int u2)] := hl
  have hP : va_P G vwCl [(h0, .inr (12, [.int 0, .int 0, .ref h0_2, .ref h0_3, .ref h0_4, .ref h0_5, .int 0, .int 0, .int 0, .ref h0_9, .ref h0_10, .ref h0_11, .int 0, .int 0, .int 0, .int 0, .long 0, .int (-1), .int 0, .int 0, .ref h0_20, .int 0, .ref h0_22, .ref h0_23, .int 0, .ref h0_25, .ref h0_26, .int 0, .int 0, .ref h0_29, .ref h0_30, .ref h0_31, .ref h0_32, .int 0, .long 0, .long 0, .long 0, .long 0, .int 0, .ref h0_39, .ref h0_40, .int 0, .ref h0_42, .int 0, .ref h0_44, .ref h0_45, .int 0, .int 0, .int 0, .int 0, .int 0, .int 0])), (h0_2, .inl (cI, 35942, .inl mrow))] s.heap := hP
  have hD : va_D A [(h0, .inr (12, [.int 0, .int 0, .ref h0_2, .ref h0_3, .ref h0_4, .ref h0_5, .int 0, .int 0, .int 0, .ref h0_9, .ref h0_10, .ref h0_11, .int 0, .int 0, .int 0, .int 0, .long 0, .int (-1), .int 0, .int 0, .ref h0_20, .int 0, .ref h0_22, .ref h0_23, .int 0, .ref h0_25, .ref h0_26, .int 0, .int 0, .ref h0_29, .ref h0_30, .ref h0_31, .ref h0_32, .int 0, .long 0, .long 0, .long 0, .long 0, .int 0, .ref h0_39, .ref h0_40, .int 0, .ref h0_42, .int 0, .ref h0_44, .ref h0_45, .int 0, .int 0, .int 0, .int 0, .int 0, .int 0])), (h0_2, .inl (cI, 35942, .inl mrow))] := hD
  refine lv_aload_n hx hb dX12_tells_0 rfl (lv_at hl 0 rfl) ?_
  refine lv_iconst (v := 0) hx hb dX12_tells_1 (by decide) ?_
  refine va_put (D := G) (ci := 12) (v := .int 0) (ty := .int) (C := RX12) (T := TX12) (N := 52) hx hb hts cm_X12_tells_0 tyX12 tyX12_ok nmX12 hown hK hP hD hS 0 rfl rfl 0 (by decide) (hts _ (dmem (j := 0) rfl)) (fun _ h9 => h9) rfl (by decide +kernel) rfl rfl (Nat.le_of_ble_eq_true rfl) dX12_tells_2 (fun H locs => setW (ws' := [(h0, .inr (12, [.int 0, .int 0, .ref h0_2, .ref h0_3, .ref h0_4, .ref h0_5, .int 0, .int 0, .int 0, .ref h0_9, .ref h0_10, .ref h0_11, .int 0, .int 0, .int 0, .int 0, .long 0, .int (-1), .int 0, .int 0, .ref h0_20, .int 0, .ref h0_22, .ref h0_23, .int 0, .ref h0_25, .ref h0_26, .int 0, .int 0, .ref h0_29, .ref h0_30, .ref h0_31, .ref h0_32, .int 0, .long 0, .long 0, .long 0, .long 0, .int 0, .ref h0_39, .ref h0_40, .int 0, .ref h0_42, .int 0, .ref h0_44, .ref h0_45, .int 0, .int 0, .int 0, .int 0, .int 0, .int 0])), (h0_2, .inl (cI, 35942, .inl mrow))]) rfl (fun hP hD hS => ?_))
  refine lv_aload_n hx hb dX12_tells_5 rfl (lv_at hl 0 rfl) ?_
  refine lv_iload_n hx hb dX12_tells_6 rfl (lv_at hl 1 rfl) ?_
  refine goV (As := [.int u1]) (rest := []) (wr := []) ⟨hx, hb, hml, hown, hts⟩ (c_X12_isField_v1 l G cI cJ cZ cD cR cT h0 u1 h0_2 h0_3 h0_4 h0_5 h0_9 h0_10 h0_11 h0_20 h0_22 h0_23 h0_25 h0_26 h0_29 h0_30 h0_31 h0_32 h0_39 h0_40 h0_42 h0_44 h0_45 _) (cwV 1 hts gv_X12_tells_141_X12_isField_v1 rfl rfl rfl (by decide +kernel) ⟨Nat.le_of_ble_eq_true rfl, Nat.le_of_ble_eq_true rfl⟩) 0 rfl rfl rfl hKK hP hD hS hA [0, 1] [] rfl rfl (by decide +kernel) (by decide +kernel) (by decide +kernel) rfl hl.1 rfl (lv_room (Nat.le_of_ble_eq_true rfl)) dX12_tells_7 ⟨Nat.le_of_ble_eq_true rfl, Nat.le_of_ble_eq_true rfl⟩ (fun v2 q1 gq1 H locs hv2 => appW (ws' := [(h0, .inr (12, [.int 0, .int 0, .ref h0_2, .ref h0_3, .ref h0_4, .ref h0_5, .int 0, .int 0, .int 0, .ref h0_9, .ref h0_10, .ref h0_11, .int 0, .int 0, .int 0, .int 0, .long 0, .int (-1), .int 0, .int 0, .ref h0_20, .int 0, .ref h0_22, .ref h0_23, .int 0, .ref h0_25, .ref h0_26, .int 0, .int 0, .ref h0_29, .ref h0_30, .ref h0_31, .ref h0_32, .int 0, .long 0, .long 0, .long 0, .long 0, .int 0, .ref h0_39, .ref h0_40, .int 0, .ref h0_42, .int 0, .ref h0_44, .ref h0_45, .int 0, .int 0, .int 0, .int 0, .int 0, .int 0])), (h0_2, .inl (cI, 35942, .inl mrow))]) rfl (fun hP hD hS => ?_))
  obtain ⟨_, rfl, rfl⟩ := hv2
  refine lv_if_ne (tgt := 15) hx hb dX12_tells_10 (by decide) (fun c => absurd c (by decide)) (fun _ => ?_)
  refine lv_iconst (v := (-1)) hx hb dX12_tells_13 (by decide) ?_
  exact retI hx hb hr hlocks ⟨_, rfl, by have hz0 : (0 : Int32).toInt = 0 := rfl; have hz1 : (1 : Int32).toInt = 1 := rfl; unfold F_tells; (repeat' split) <;> first | rfl | (exfalso; omega)⟩ hP hD hS (fun _ => 0) (fun _ _ => 0) [] (by decide +kernel) rfl dX12_tells_14
