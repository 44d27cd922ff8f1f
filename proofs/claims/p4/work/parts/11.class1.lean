theorem dJ6_bitCount_0f7a4_0 : decode cJ6_bitCount_0f7a4 0 = .ok (.iload_n 0, 1) := by decide +kernel
theorem dJ6_bitCount_0f7a4_1 : decode cJ6_bitCount_0f7a4 1 = .ok (.iload_n 0, 1) := by decide +kernel
theorem dJ6_bitCount_0f7a4_2 : decode cJ6_bitCount_0f7a4 2 = .ok (.iconst 1, 1) := by decide +kernel
theorem dJ6_bitCount_0f7a4_3 : decode cJ6_bitCount_0f7a4 3 = .ok (.iushr, 1) := by decide +kernel
theorem dJ6_bitCount_0f7a4_4 : decode cJ6_bitCount_0f7a4 4 = .ok (.ldc_w 265, 3) := by decide +kernel
theorem dJ6_bitCount_0f7a4_7 : decode cJ6_bitCount_0f7a4 7 = .ok (.iand, 1) := by decide +kernel
theorem dJ6_bitCount_0f7a4_8 : decode cJ6_bitCount_0f7a4 8 = .ok (.isub, 1) := by decide +kernel
theorem dJ6_bitCount_0f7a4_9 : decode cJ6_bitCount_0f7a4 9 = .ok (.istore_n 0, 1) := by decide +kernel
theorem dJ6_bitCount_0f7a4_10 : decode cJ6_bitCount_0f7a4 10 = .ok (.iload_n 0, 1) := by decide +kernel
theorem dJ6_bitCount_0f7a4_11 : decode cJ6_bitCount_0f7a4 11 = .ok (.ldc_w 266, 3) := by decide +kernel
theorem dJ6_bitCount_0f7a4_14 : decode cJ6_bitCount_0f7a4 14 = .ok (.iand, 1) := by decide +kernel
theorem dJ6_bitCount_0f7a4_15 : decode cJ6_bitCount_0f7a4 15 = .ok (.iload_n 0, 1) := by decide +kernel
theorem dJ6_bitCount_0f7a4_16 : decode cJ6_bitCount_0f7a4 16 = .ok (.iconst 2, 1) := by decide +kernel
theorem dJ6_bitCount_0f7a4_17 : decode cJ6_bitCount_0f7a4 17 = .ok (.iushr, 1) := by decide +kernel
theorem dJ6_bitCount_0f7a4_18 : decode cJ6_bitCount_0f7a4 18 = .ok (.ldc_w 266, 3) := by decide +kernel
theorem dJ6_bitCount_0f7a4_21 : decode cJ6_bitCount_0f7a4 21 = .ok (.iand, 1) := by decide +kernel
theorem dJ6_bitCount_0f7a4_22 : decode cJ6_bitCount_0f7a4 22 = .ok (.iadd, 1) := by decide +kernel
theorem dJ6_bitCount_0f7a4_23 : decode cJ6_bitCount_0f7a4 23 = .ok (.istore_n 0, 1) := by decide +kernel
theorem dJ6_bitCount_0f7a4_24 : decode cJ6_bitCount_0f7a4 24 = .ok (.iload_n 0, 1) := by decide +kernel
theorem dJ6_bitCount_0f7a4_25 : decode cJ6_bitCount_0f7a4 25 = .ok (.iload_n 0, 1) := by decide +kernel
theorem dJ6_bitCount_0f7a4_26 : decode cJ6_bitCount_0f7a4 26 = .ok (.iconst 4, 1) := by decide +kernel
theorem dJ6_bitCount_0f7a4_27 : decode cJ6_bitCount_0f7a4 27 = .ok (.iushr, 1) := by decide +kernel
theorem dJ6_bitCount_0f7a4_28 : decode cJ6_bitCount_0f7a4 28 = .ok (.iadd, 1) := by decide +kernel
theorem dJ6_bitCount_0f7a4_29 : decode cJ6_bitCount_0f7a4 29 = .ok (.ldc_w 267, 3) := by decide +kernel
theorem dJ6_bitCount_0f7a4_32 : decode cJ6_bitCount_0f7a4 32 = .ok (.iand, 1) := by decide +kernel
theorem dJ6_bitCount_0f7a4_33 : decode cJ6_bitCount_0f7a4 33 = .ok (.istore_n 0, 1) := by decide +kernel
theorem dJ6_bitCount_0f7a4_34 : decode cJ6_bitCount_0f7a4 34 = .ok (.iload_n 0, 1) := by decide +kernel
theorem dJ6_bitCount_0f7a4_35 : decode cJ6_bitCount_0f7a4 35 = .ok (.iload_n 0, 1) := by decide +kernel
theorem dJ6_bitCount_0f7a4_36 : decode cJ6_bitCount_0f7a4 36 = .ok (.bipush 8, 2) := by decide +kernel
theorem dJ6_bitCount_0f7a4_38 : decode cJ6_bitCount_0f7a4 38 = .ok (.iushr, 1) := by decide +kernel
theorem dJ6_bitCount_0f7a4_39 : decode cJ6_bitCount_0f7a4 39 = .ok (.iadd, 1) := by decide +kernel
theorem dJ6_bitCount_0f7a4_40 : decode cJ6_bitCount_0f7a4 40 = .ok (.istore_n 0, 1) := by decide +kernel
theorem dJ6_bitCount_0f7a4_41 : decode cJ6_bitCount_0f7a4 41 = .ok (.iload_n 0, 1) := by decide +kernel
theorem dJ6_bitCount_0f7a4_42 : decode cJ6_bitCount_0f7a4 42 = .ok (.iload_n 0, 1) := by decide +kernel
theorem dJ6_bitCount_0f7a4_43 : decode cJ6_bitCount_0f7a4 43 = .ok (.bipush 16, 2) := by decide +kernel
theorem dJ6_bitCount_0f7a4_45 : decode cJ6_bitCount_0f7a4 45 = .ok (.iushr, 1) := by decide +kernel
theorem dJ6_bitCount_0f7a4_46 : decode cJ6_bitCount_0f7a4 46 = .ok (.iadd, 1) := by decide +kernel
theorem dJ6_bitCount_0f7a4_47 : decode cJ6_bitCount_0f7a4 47 = .ok (.istore_n 0, 1) := by decide +kernel
theorem dJ6_bitCount_0f7a4_48 : decode cJ6_bitCount_0f7a4 48 = .ok (.iload_n 0, 1) := by decide +kernel
theorem dJ6_bitCount_0f7a4_49 : decode cJ6_bitCount_0f7a4 49 = .ok (.bipush 63, 2) := by decide +kernel
theorem dJ6_bitCount_0f7a4_51 : decode cJ6_bitCount_0f7a4 51 = .ok (.iand, 1) := by decide +kernel
theorem dJ6_bitCount_0f7a4_52 : decode cJ6_bitCount_0f7a4 52 = .ok (.ireturn, 1) := by decide +kernel
theorem dX4_add_0 : decode cX4_add 0 = .ok (.aload_n 0, 1) := by decide +kernel
theorem dX4_add_1 : decode cX4_add 1 = .ok (.getfield 39, 3) := by decide +kernel
theorem dX4_add_4 : decode cX4_add 4 = .ok (.bipush 40, 2) := by decide +kernel
theorem dX4_add_6 : decode cX4_add 6 = .ok (.if_icmp .lt 5, 3) := by decide +kernel
theorem dX4_add_11 : decode cX4_add 11 = .ok (.aload_n 0, 1) := by decide +kernel
theorem dX4_add_12 : decode cX4_add 12 = .ok (.getfield 39, 3) := by decide +kernel
theorem dX4_add_15 : decode cX4_add 15 = .ok (.istore 4, 2) := by decide +kernel
theorem dX4_add_17 : decode cX4_add 17 = .ok (.aload_n 0, 1) := by decide +kernel
theorem dX4_add_18 : decode cX4_add 18 = .ok (.getfield 9, 3) := by decide +kernel
theorem dX4_add_21 : decode cX4_add 21 = .ok (.iload 4, 2) := by decide +kernel
theorem dX4_add_23 : decode cX4_add 23 = .ok (.iload_n 1, 1) := by decide +kernel
theorem dX4_add_24 : decode cX4_add 24 = .ok (.iastore, 1) := by decide +kernel
theorem dX4_add_25 : decode cX4_add 25 = .ok (.aload_n 0, 1) := by decide +kernel
theorem dX4_add_26 : decode cX4_add 26 = .ok (.getfield 15, 3) := by decide +kernel
theorem dX4_add_29 : decode cX4_add 29 = .ok (.iload 4, 2) := by decide +kernel
theorem dX4_add_31 : decode cX4_add 31 = .ok (.iload_n 2, 1) := by decide +kernel
theorem dX4_add_32 : decode cX4_add 32 = .ok (.iastore, 1) := by decide +kernel
theorem dX4_add_33 : decode cX4_add 33 = .ok (.aload_n 0, 1) := by decide +kernel
theorem dX4_add_34 : decode cX4_add 34 = .ok (.getfield 18, 3) := by decide +kernel
theorem dX4_add_37 : decode cX4_add 37 = .ok (.iload 4, 2) := by decide +kernel
theorem dX4_add_39 : decode cX4_add 39 = .ok (.iload_n 3, 1) := by decide +kernel
theorem dX4_add_40 : decode cX4_add 40 = .ok (.iastore, 1) := by decide +kernel
theorem dX4_add_41 : decode cX4_add 41 = .ok (.aload_n 0, 1) := by decide +kernel
theorem dX4_add_42 : decode cX4_add 42 = .ok (.getfield 21, 3) := by decide +kernel
theorem dX4_add_45 : decode cX4_add 45 = .ok (.iload 4, 2) := by decide +kernel
theorem dX4_add_47 : decode cX4_add 47 = .ok (.iconst (-1), 1) := by decide +kernel
theorem dX4_add_48 : decode cX4_add 48 = .ok (.iastore, 1) := by decide +kernel
theorem dX4_add_49 : decode cX4_add 49 = .ok (.aload_n 0, 1) := by decide +kernel
theorem dX4_add_50 : decode cX4_add 50 = .ok (.getfield 24, 3) := by decide +kernel
theorem dX4_add_53 : decode cX4_add 53 = .ok (.iload 4, 2) := by decide +kernel
theorem dX4_add_55 : decode cX4_add 55 = .ok (.iconst 0, 1) := by decide +kernel
theorem dX4_add_56 : decode cX4_add 56 = .ok (.iastore, 1) := by decide +kernel
theorem dX4_add_57 : decode cX4_add 57 = .ok (.aload_n 0, 1) := by decide +kernel
theorem dX4_add_58 : decode cX4_add 58 = .ok (.getfield 27, 3) := by decide +kernel
theorem dX4_add_61 : decode cX4_add 61 = .ok (.iload 4, 2) := by decide +kernel
theorem dX4_add_63 : decode cX4_add 63 = .ok (.iconst 0, 1) := by decide +kernel
theorem dX4_add_64 : decode cX4_add 64 = .ok (.iastore, 1) := by decide +kernel
theorem dX4_add_65 : decode cX4_add 65 = .ok (.aload_n 0, 1) := by decide +kernel
theorem dX4_add_66 : decode cX4_add 66 = .ok (.getfield 30, 3) := by decide +kernel
theorem dX4_add_69 : decode cX4_add 69 = .ok (.iload 4, 2) := by decide +kernel
theorem dX4_add_71 : decode cX4_add 71 = .ok (.iconst (-1), 1) := by decide +kernel
theorem dX4_add_72 : decode cX4_add 72 = .ok (.iastore, 1) := by decide +kernel
theorem dX4_add_73 : decode cX4_add 73 = .ok (.aload_n 0, 1) := by decide +kernel
theorem dX4_add_74 : decode cX4_add 74 = .ok (.getfield 33, 3) := by decide +kernel
theorem dX4_add_77 : decode cX4_add 77 = .ok (.iload 4, 2) := by decide +kernel
theorem dX4_add_79 : decode cX4_add 79 = .ok (.iconst 0, 1) := by decide +kernel
theorem dX4_add_80 : decode cX4_add 80 = .ok (.iastore, 1) := by decide +kernel
theorem dX4_add_81 : decode cX4_add 81 = .ok (.aload_n 0, 1) := by decide +kernel
theorem dX4_add_82 : decode cX4_add 82 = .ok (.dup, 1) := by decide +kernel
theorem dX4_add_83 : decode cX4_add 83 = .ok (.getfield 39, 3) := by decide +kernel
theorem dX4_add_86 : decode cX4_add 86 = .ok (.iconst 1, 1) := by decide +kernel
theorem dX4_add_87 : decode cX4_add 87 = .ok (.iadd, 1) := by decide +kernel
theorem dX4_add_88 : decode cX4_add 88 = .ok (.putfield 39, 3) := by decide +kernel
theorem dX4_add_91 : decode cX4_add 91 = .ok (.iload 4, 2) := by decide +kernel
theorem dX4_add_93 : decode cX4_add 93 = .ok (.ireturn, 1) := by decide +kernel
theorem dX4_add_9 : decode cX4_add 9 = .ok (.iconst (-1), 1) := by decide +kernel
theorem dX4_add_10 : decode cX4_add 10 = .ok (.ireturn, 1) := by decide +kernel
theorem dX4_copyFrom_0 : decode cX4_copyFrom 0 = .ok (.aload_n 0, 1) := by decide +kernel
theorem dX4_copyFrom_1 : decode cX4_copyFrom 1 = .ok (.aload_n 1, 1) := by decide +kernel
theorem dX4_copyFrom_2 : decode cX4_copyFrom 2 = .ok (.getfield 39, 3) := by decide +kernel
theorem dX4_copyFrom_5 : decode cX4_copyFrom 5 = .ok (.putfield 39, 3) := by decide +kernel
theorem dX4_copyFrom_8 : decode cX4_copyFrom 8 = .ok (.aload_n 1, 1) := by decide +kernel
theorem dX4_copyFrom_9 : decode cX4_copyFrom 9 = .ok (.getfield 9, 3) := by decide +kernel
theorem dX4_copyFrom_12 : decode cX4_copyFrom 12 = .ok (.iconst 0, 1) := by decide +kernel
theorem dX4_copyFrom_13 : decode cX4_copyFrom 13 = .ok (.aload_n 0, 1) := by decide +kernel
theorem dX4_copyFrom_14 : decode cX4_copyFrom 14 = .ok (.getfield 9, 3) := by decide +kernel
theorem dX4_copyFrom_17 : decode cX4_copyFrom 17 = .ok (.iconst 0, 1) := by decide +kernel
theorem dX4_copyFrom_18 : decode cX4_copyFrom 18 = .ok (.bipush 40, 2) := by decide +kernel
theorem dX4_copyFrom_20 : decode cX4_copyFrom 20 = .ok (.invokestatic 61, 3) := by decide +kernel
theorem dX4_copyFrom_23 : decode cX4_copyFrom 23 = .ok (.aload_n 1, 1) := by decide +kernel
theorem dX4_copyFrom_24 : decode cX4_copyFrom 24 = .ok (.getfield 15, 3) := by decide +kernel
theorem dX4_copyFrom_27 : decode cX4_copyFrom 27 = .ok (.iconst 0, 1) := by decide +kernel
theorem dX4_copyFrom_28 : decode cX4_copyFrom 28 = .ok (.aload_n 0, 1) := by decide +kernel
theorem dX4_copyFrom_29 : decode cX4_copyFrom 29 = .ok (.getfield 15, 3) := by decide +kernel
theorem dX4_copyFrom_32 : decode cX4_copyFrom 32 = .ok (.iconst 0, 1) := by decide +kernel
theorem dX4_copyFrom_33 : decode cX4_copyFrom 33 = .ok (.bipush 40, 2) := by decide +kernel
theorem dX4_copyFrom_35 : decode cX4_copyFrom 35 = .ok (.invokestatic 61, 3) := by decide +kernel
theorem dX4_copyFrom_38 : decode cX4_copyFrom 38 = .ok (.aload_n 1, 1) := by decide +kernel
theorem dX4_copyFrom_39 : decode cX4_copyFrom 39 = .ok (.getfield 18, 3) := by decide +kernel
theorem dX4_copyFrom_42 : decode cX4_copyFrom 42 = .ok (.iconst 0, 1) := by decide +kernel
theorem dX4_copyFrom_43 : decode cX4_copyFrom 43 = .ok (.aload_n 0, 1) := by decide +kernel
theorem dX4_copyFrom_44 : decode cX4_copyFrom 44 = .ok (.getfield 18, 3) := by decide +kernel
theorem dX4_copyFrom_47 : decode cX4_copyFrom 47 = .ok (.iconst 0, 1) := by decide +kernel
theorem dX4_copyFrom_48 : decode cX4_copyFrom 48 = .ok (.bipush 40, 2) := by decide +kernel
theorem dX4_copyFrom_50 : decode cX4_copyFrom 50 = .ok (.invokestatic 61, 3) := by decide +kernel
theorem dX4_copyFrom_53 : decode cX4_copyFrom 53 = .ok (.aload_n 1, 1) := by decide +kernel
theorem dX4_copyFrom_54 : decode cX4_copyFrom 54 = .ok (.getfield 21, 3) := by decide +kernel
theorem dX4_copyFrom_57 : decode cX4_copyFrom 57 = .ok (.iconst 0, 1) := by decide +kernel
theorem dX4_copyFrom_58 : decode cX4_copyFrom 58 = .ok (.aload_n 0, 1) := by decide +kernel
theorem dX4_copyFrom_59 : decode cX4_copyFrom 59 = .ok (.getfield 21, 3) := by decide +kernel
theorem dX4_copyFrom_62 : decode cX4_copyFrom 62 = .ok (.iconst 0, 1) := by decide +kernel
theorem dX4_copyFrom_63 : decode cX4_copyFrom 63 = .ok (.bipush 40, 2) := by decide +kernel
theorem dX4_copyFrom_65 : decode cX4_copyFrom 65 = .ok (.invokestatic 61, 3) := by decide +kernel
theorem dX4_copyFrom_68 : decode cX4_copyFrom 68 = .ok (.aload_n 1, 1) := by decide +kernel
theorem dX4_copyFrom_69 : decode cX4_copyFrom 69 = .ok (.getfield 24, 3) := by decide +kernel
theorem dX4_copyFrom_72 : decode cX4_copyFrom 72 = .ok (.iconst 0, 1) := by decide +kernel
theorem dX4_copyFrom_73 : decode cX4_copyFrom 73 = .ok (.aload_n 0, 1) := by decide +kernel
theorem dX4_copyFrom_74 : decode cX4_copyFrom 74 = .ok (.getfield 24, 3) := by decide +kernel
theorem dX4_copyFrom_77 : decode cX4_copyFrom 77 = .ok (.iconst 0, 1) := by decide +kernel
theorem dX4_copyFrom_78 : decode cX4_copyFrom 78 = .ok (.bipush 40, 2) := by decide +kernel
theorem dX4_copyFrom_80 : decode cX4_copyFrom 80 = .ok (.invokestatic 61, 3) := by decide +kernel
theorem dX4_copyFrom_83 : decode cX4_copyFrom 83 = .ok (.aload_n 1, 1) := by decide +kernel
theorem dX4_copyFrom_84 : decode cX4_copyFrom 84 = .ok (.getfield 27, 3) := by decide +kernel
theorem dX4_copyFrom_87 : decode cX4_copyFrom 87 = .ok (.iconst 0, 1) := by decide +kernel
theorem dX4_copyFrom_88 : decode cX4_copyFrom 88 = .ok (.aload_n 0, 1) := by decide +kernel
theorem dX4_copyFrom_89 : decode cX4_copyFrom 89 = .ok (.getfield 27, 3) := by decide +kernel
theorem dX4_copyFrom_92 : decode cX4_copyFrom 92 = .ok (.iconst 0, 1) := by decide +kernel
theorem dX4_copyFrom_93 : decode cX4_copyFrom 93 = .ok (.bipush 40, 2) := by decide +kernel
theorem dX4_copyFrom_95 : decode cX4_copyFrom 95 = .ok (.invokestatic 61, 3) := by decide +kernel
theorem dX4_copyFrom_98 : decode cX4_copyFrom 98 = .ok (.aload_n 1, 1) := by decide +kernel
theorem dX4_copyFrom_99 : decode cX4_copyFrom 99 = .ok (.getfield 30, 3) := by decide +kernel
theorem dX4_copyFrom_102 : decode cX4_copyFrom 102 = .ok (.iconst 0, 1) := by decide +kernel
theorem dX4_copyFrom_103 : decode cX4_copyFrom 103 = .ok (.aload_n 0, 1) := by decide +kernel
theorem dX4_copyFrom_104 : decode cX4_copyFrom 104 = .ok (.getfield 30, 3) := by decide +kernel
theorem dX4_copyFrom_107 : decode cX4_copyFrom 107 = .ok (.iconst 0, 1) := by decide +kernel
theorem dX4_copyFrom_108 : decode cX4_copyFrom 108 = .ok (.bipush 40, 2) := by decide +kernel
theorem dX4_copyFrom_110 : decode cX4_copyFrom 110 = .ok (.invokestatic 61, 3) := by decide +kernel
theorem dX4_copyFrom_113 : decode cX4_copyFrom 113 = .ok (.aload_n 1, 1) := by decide +kernel
theorem dX4_copyFrom_114 : decode cX4_copyFrom 114 = .ok (.getfield 33, 3) := by decide +kernel
theorem dX4_copyFrom_117 : decode cX4_copyFrom 117 = .ok (.iconst 0, 1) := by decide +kernel
theorem dX4_copyFrom_118 : decode cX4_copyFrom 118 = .ok (.aload_n 0, 1) := by decide +kernel
theorem dX4_copyFrom_119 : decode cX4_copyFrom 119 = .ok (.getfield 33, 3) := by decide +kernel
theorem dX4_copyFrom_122 : decode cX4_copyFrom 122 = .ok (.iconst 0, 1) := by decide +kernel
theorem dX4_copyFrom_123 : decode cX4_copyFrom 123 = .ok (.bipush 40, 2) := by decide +kernel
theorem dX4_copyFrom_125 : decode cX4_copyFrom 125 = .ok (.invokestatic 61, 3) := by decide +kernel
theorem dX4_copyFrom_128 : decode cX4_copyFrom 128 = .ok (.return_, 1) := by decide +kernel
theorem dX4_gain_0 : decode cX4_gain 0 = .ok (.aload_n 0, 1) := by decide +kernel
theorem dX4_gain_1 : decode cX4_gain 1 = .ok (.getfield 15, 3) := by decide +kernel
theorem dX4_gain_4 : decode cX4_gain 4 = .ok (.iload_n 1, 1) := by decide +kernel
theorem dX4_gain_5 : decode cX4_gain 5 = .ok (.aload_n 0, 1) := by decide +kernel
theorem dX4_gain_6 : decode cX4_gain 6 = .ok (.getfield 15, 3) := by decide +kernel
theorem dX4_gain_9 : decode cX4_gain 9 = .ok (.iload_n 1, 1) := by decide +kernel
theorem dX4_gain_10 : decode cX4_gain 10 = .ok (.iaload, 1) := by decide +kernel
theorem dX4_gain_11 : decode cX4_gain 11 = .ok (.iload_n 2, 1) := by decide +kernel
theorem dX4_gain_12 : decode cX4_gain 12 = .ok (.iadd, 1) := by decide +kernel
theorem dX4_gain_13 : decode cX4_gain 13 = .ok (.ldc 43, 2) := by decide +kernel
theorem dX4_gain_15 : decode cX4_gain 15 = .ok (.invokestatic 44, 3) := by decide +kernel
theorem dX4_gain_18 : decode cX4_gain 18 = .ok (.iastore, 1) := by decide +kernel
theorem dX4_gain_19 : decode cX4_gain 19 = .ok (.return_, 1) := by decide +kernel
theorem dX4_has_0 : decode cX4_has 0 = .ok (.iload_n 1, 1) := by decide +kernel
theorem dX4_has_1 : decode cX4_has 1 = .ok (.ifCond .lt 15, 3) := by decide +kernel
theorem dX4_has_16 : decode cX4_has 16 = .ok (.iconst 0, 1) := by decide +kernel
theorem dX4_has_17 : decode cX4_has 17 = .ok (.ireturn, 1) := by decide +kernel
theorem dX4_has_4 : decode cX4_has 4 = .ok (.iload_n 1, 1) := by decide +kernel
theorem dX4_has_5 : decode cX4_has 5 = .ok (.aload_n 0, 1) := by decide +kernel
theorem dX4_has_6 : decode cX4_has 6 = .ok (.getfield 39, 3) := by decide +kernel
theorem dX4_has_9 : decode cX4_has 9 = .ok (.if_icmp .ge 7, 3) := by decide +kernel
theorem dX4_has_12 : decode cX4_has 12 = .ok (.iconst 1, 1) := by decide +kernel
theorem dX4_has_13 : decode cX4_has 13 = .ok (.goto 4, 3) := by decide +kernel
theorem dX4_isAbout_0 : decode cX4_isAbout 0 = .ok (.aload_n 0, 1) := by decide +kernel
theorem dX4_isAbout_1 : decode cX4_isAbout 1 = .ok (.getfield 27, 3) := by decide +kernel
theorem dX4_isAbout_4 : decode cX4_isAbout 4 = .ok (.iload_n 1, 1) := by decide +kernel
theorem dX4_isAbout_5 : decode cX4_isAbout 5 = .ok (.iaload, 1) := by decide +kernel
theorem dX4_isAbout_6 : decode cX4_isAbout 6 = .ok (.ifCond .eq 13, 3) := by decide +kernel
theorem dX4_isAbout_24 : decode cX4_isAbout 24 = .ok (.ireturn, 1) := by decide +kernel
theorem dX4_isAbout_19 : decode cX4_isAbout 19 = .ok (.iconst 1, 1) := by decide +kernel
theorem dX4_isAbout_20 : decode cX4_isAbout 20 = .ok (.goto 4, 3) := by decide +kernel
theorem dX4_isAbout_9 : decode cX4_isAbout 9 = .ok (.aload_n 0, 1) := by decide +kernel
theorem dX4_isAbout_10 : decode cX4_isAbout 10 = .ok (.getfield 27, 3) := by decide +kernel
theorem dX4_isAbout_13 : decode cX4_isAbout 13 = .ok (.iload_n 1, 1) := by decide +kernel
theorem dX4_isAbout_14 : decode cX4_isAbout 14 = .ok (.iaload, 1) := by decide +kernel
theorem dX4_isAbout_15 : decode cX4_isAbout 15 = .ok (.iconst 1, 1) := by decide +kernel
theorem dX4_isAbout_16 : decode cX4_isAbout 16 = .ok (.if_icmp .ne 7, 3) := by decide +kernel
theorem dX4_isAbout_23 : decode cX4_isAbout 23 = .ok (.iconst 0, 1) := by decide +kernel
theorem dX4_keepsBan_0 : decode cX4_keepsBan 0 = .ok (.aload_n 0, 1) := by decide +kernel
theorem dX4_keepsBan_1 : decode cX4_keepsBan 1 = .ok (.getfield 9, 3) := by decide +kernel
theorem dX4_keepsBan_4 : decode cX4_keepsBan 4 = .ok (.iload_n 1, 1) := by decide +kernel
theorem dX4_keepsBan_5 : decode cX4_keepsBan 5 = .ok (.iaload, 1) := by decide +kernel
theorem dX4_keepsBan_6 : decode cX4_keepsBan 6 = .ok (.aload_n 0, 1) := by decide +kernel
theorem dX4_keepsBan_7 : decode cX4_keepsBan 7 = .ok (.getfield 9, 3) := by decide +kernel
theorem dX4_keepsBan_10 : decode cX4_keepsBan 10 = .ok (.iload_n 2, 1) := by decide +kernel
theorem dX4_keepsBan_11 : decode cX4_keepsBan 11 = .ok (.iaload, 1) := by decide +kernel
theorem dX4_keepsBan_12 : decode cX4_keepsBan 12 = .ok (.if_icmp .ne 5, 3) := by decide +kernel
theorem dX4_keepsBan_17 : decode cX4_keepsBan 17 = .ok (.iload_n 1, 1) := by decide +kernel
theorem dX4_keepsBan_18 : decode cX4_keepsBan 18 = .ok (.istore 4, 2) := by decide +kernel
theorem dX4_keepsBan_20 : decode cX4_keepsBan 20 = .ok (.iconst 0, 1) := by decide +kernel
theorem dX4_keepsBan_21 : decode cX4_keepsBan 21 = .ok (.istore 5, 2) := by decide +kernel
theorem dX4_keepsBan_23 : decode cX4_keepsBan 23 = .ok (.iload 5, 2) := by decide +kernel
theorem dX4_keepsBan_25 : decode cX4_keepsBan 25 = .ok (.bipush 40, 2) := by decide +kernel
theorem dX4_keepsBan_27 : decode cX4_keepsBan 27 = .ok (.if_icmp .gt 40, 3) := by decide +kernel
theorem dX4_keepsBan_67 : decode cX4_keepsBan 67 = .ok (.iconst 0, 1) := by decide +kernel
theorem dX4_keepsBan_68 : decode cX4_keepsBan 68 = .ok (.ireturn, 1) := by decide +kernel
theorem dX4_keepsBan_30 : decode cX4_keepsBan 30 = .ok (.aload_n 0, 1) := by decide +kernel
theorem dX4_keepsBan_31 : decode cX4_keepsBan 31 = .ok (.iload 4, 2) := by decide +kernel
theorem dX4_keepsBan_33 : decode cX4_keepsBan 33 = .ok (.invokevirtual 50, 3) := by decide +kernel
theorem dX4_keepsBan_36 : decode cX4_keepsBan 36 = .ok (.ifCond .eq 31, 3) := by decide +kernel
theorem dX4_keepsBan_39 : decode cX4_keepsBan 39 = .ok (.aload_n 0, 1) := by decide +kernel
theorem dX4_keepsBan_40 : decode cX4_keepsBan 40 = .ok (.getfield 18, 3) := by decide +kernel
theorem dX4_keepsBan_43 : decode cX4_keepsBan 43 = .ok (.iload 4, 2) := by decide +kernel
theorem dX4_keepsBan_45 : decode cX4_keepsBan 45 = .ok (.iaload, 1) := by decide +kernel
theorem dX4_keepsBan_46 : decode cX4_keepsBan 46 = .ok (.iload_n 3, 1) := by decide +kernel
theorem dX4_keepsBan_47 : decode cX4_keepsBan 47 = .ok (.if_icmp .lt 5, 3) := by decide +kernel
theorem dX4_keepsBan_52 : decode cX4_keepsBan 52 = .ok (.aload_n 0, 1) := by decide +kernel
theorem dX4_keepsBan_53 : decode cX4_keepsBan 53 = .ok (.getfield 21, 3) := by decide +kernel
theorem dX4_keepsBan_56 : decode cX4_keepsBan 56 = .ok (.iload 4, 2) := by decide +kernel
theorem dX4_keepsBan_58 : decode cX4_keepsBan 58 = .ok (.iaload, 1) := by decide +kernel
theorem dX4_keepsBan_59 : decode cX4_keepsBan 59 = .ok (.istore 4, 2) := by decide +kernel
theorem dX4_keepsBan_61 : decode cX4_keepsBan 61 = .ok (.iinc 5 1, 3) := by decide +kernel
theorem dX4_keepsBan_64 : decode cX4_keepsBan 64 = .ok (.goto (-41), 3) := by decide +kernel
theorem dX4_keepsBan_50 : decode cX4_keepsBan 50 = .ok (.iconst 1, 1) := by decide +kernel
theorem dX4_keepsBan_51 : decode cX4_keepsBan 51 = .ok (.ireturn, 1) := by decide +kernel
theorem dX4_keepsBan_15 : decode cX4_keepsBan 15 = .ok (.iconst 0, 1) := by decide +kernel
theorem dX4_keepsBan_16 : decode cX4_keepsBan 16 = .ok (.ireturn, 1) := by decide +kernel
theorem dX4_kinOf_0 : decode cX4_kinOf 0 = .ok (.iconst 0, 1) := by decide +kernel
theorem dX4_kinOf_1 : decode cX4_kinOf 1 = .ok (.istore_n 2, 1) := by decide +kernel
theorem dX4_kinOf_2 : decode cX4_kinOf 2 = .ok (.iconst 0, 1) := by decide +kernel
theorem dX4_kinOf_3 : decode cX4_kinOf 3 = .ok (.istore_n 3, 1) := by decide +kernel
theorem dX4_kinOf_4 : decode cX4_kinOf 4 = .ok (.iload_n 3, 1) := by decide +kernel
theorem dX4_kinOf_5 : decode cX4_kinOf 5 = .ok (.aload_n 0, 1) := by decide +kernel
theorem dX4_kinOf_6 : decode cX4_kinOf 6 = .ok (.getfield 39, 3) := by decide +kernel
theorem dX4_kinOf_9 : decode cX4_kinOf 9 = .ok (.if_icmp .ge 41, 3) := by decide +kernel
theorem dX4_kinOf_50 : decode cX4_kinOf 50 = .ok (.iload_n 2, 1) := by decide +kernel
theorem dX4_kinOf_51 : decode cX4_kinOf 51 = .ok (.ireturn, 1) := by decide +kernel
theorem dX4_kinOf_12 : decode cX4_kinOf 12 = .ok (.iload_n 3, 1) := by decide +kernel
theorem dX4_kinOf_13 : decode cX4_kinOf 13 = .ok (.iload_n 1, 1) := by decide +kernel
theorem dX4_kinOf_14 : decode cX4_kinOf 14 = .ok (.if_icmp .eq 30, 3) := by decide +kernel
theorem dX4_kinOf_44 : decode cX4_kinOf 44 = .ok (.iinc 3 1, 3) := by decide +kernel
theorem dX4_kinOf_47 : decode cX4_kinOf 47 = .ok (.goto (-43), 3) := by decide +kernel
theorem dX4_kinOf_17 : decode cX4_kinOf 17 = .ok (.aload_n 0, 1) := by decide +kernel
theorem dX4_kinOf_18 : decode cX4_kinOf 18 = .ok (.getfield 9, 3) := by decide +kernel
theorem dX4_kinOf_21 : decode cX4_kinOf 21 = .ok (.iload_n 3, 1) := by decide +kernel
theorem dX4_kinOf_22 : decode cX4_kinOf 22 = .ok (.iaload, 1) := by decide +kernel
theorem dX4_kinOf_23 : decode cX4_kinOf 23 = .ok (.aload_n 0, 1) := by decide +kernel
theorem dX4_kinOf_24 : decode cX4_kinOf 24 = .ok (.getfield 9, 3) := by decide +kernel
theorem dX4_kinOf_27 : decode cX4_kinOf 27 = .ok (.iload_n 1, 1) := by decide +kernel
theorem dX4_kinOf_28 : decode cX4_kinOf 28 = .ok (.iaload, 1) := by decide +kernel
theorem dX4_kinOf_29 : decode cX4_kinOf 29 = .ok (.if_icmp .ne 15, 3) := by decide +kernel
theorem dX4_kinOf_32 : decode cX4_kinOf 32 = .ok (.aload_n 0, 1) := by decide +kernel
theorem dX4_kinOf_33 : decode cX4_kinOf 33 = .ok (.getfield 27, 3) := by decide +kernel
theorem dX4_kinOf_36 : decode cX4_kinOf 36 = .ok (.iload_n 3, 1) := by decide +kernel
theorem dX4_kinOf_37 : decode cX4_kinOf 37 = .ok (.iaload, 1) := by decide +kernel
theorem dX4_kinOf_38 : decode cX4_kinOf 38 = .ok (.ifCond .ne 6, 3) := by decide +kernel
theorem dX4_kinOf_41 : decode cX4_kinOf 41 = .ok (.iinc 2 1, 3) := by decide +kernel
theorem dX4_maySell_0 : decode cX4_maySell 0 = .ok (.iload_n 1, 1) := by decide +kernel
theorem dX4_maySell_1 : decode cX4_maySell 1 = .ok (.iload_n 2, 1) := by decide +kernel
theorem dX4_maySell_2 : decode cX4_maySell 2 = .ok (.if_icmp .eq 36, 3) := by decide +kernel
theorem dX4_maySell_39 : decode cX4_maySell 39 = .ok (.ireturn, 1) := by decide +kernel
theorem dX4_maySell_38 : decode cX4_maySell 38 = .ok (.iconst 0, 1) := by decide +kernel
theorem dX4_maySell_5 : decode cX4_maySell 5 = .ok (.aload_n 0, 1) := by decide +kernel
theorem dX4_maySell_6 : decode cX4_maySell 6 = .ok (.iload_n 1, 1) := by decide +kernel
theorem dX4_maySell_7 : decode cX4_maySell 7 = .ok (.invokevirtual 54, 3) := by decide +kernel
theorem dX4_maySell_10 : decode cX4_maySell 10 = .ok (.ifCond .eq 28, 3) := by decide +kernel
theorem dX4_maySell_13 : decode cX4_maySell 13 = .ok (.aload_n 0, 1) := by decide +kernel
theorem dX4_maySell_14 : decode cX4_maySell 14 = .ok (.getfield 15, 3) := by decide +kernel
theorem dX4_maySell_17 : decode cX4_maySell 17 = .ok (.iload_n 1, 1) := by decide +kernel
theorem dX4_maySell_18 : decode cX4_maySell 18 = .ok (.iaload, 1) := by decide +kernel
theorem dX4_maySell_19 : decode cX4_maySell 19 = .ok (.iload_n 3, 1) := by decide +kernel
theorem dX4_maySell_20 : decode cX4_maySell 20 = .ok (.if_icmp .lt 18, 3) := by decide +kernel
theorem dX4_maySell_23 : decode cX4_maySell 23 = .ok (.aload_n 0, 1) := by decide +kernel
theorem dX4_maySell_24 : decode cX4_maySell 24 = .ok (.iload_n 1, 1) := by decide +kernel
theorem dX4_maySell_25 : decode cX4_maySell 25 = .ok (.iload_n 2, 1) := by decide +kernel
theorem dX4_maySell_26 : decode cX4_maySell 26 = .ok (.iload 4, 2) := by decide +kernel
theorem dX4_maySell_28 : decode cX4_maySell 28 = .ok (.invokevirtual 57, 3) := by decide +kernel
theorem dX4_maySell_31 : decode cX4_maySell 31 = .ok (.ifCond .ne 7, 3) := by decide +kernel
theorem dX4_maySell_34 : decode cX4_maySell 34 = .ok (.iconst 1, 1) := by decide +kernel
theorem dX4_maySell_35 : decode cX4_maySell 35 = .ok (.goto 4, 3) := by decide +kernel
theorem dX1_addEstate_0 : decode cX1_addEstate 0 = .ok (.aload_n 0, 1) := by decide +kernel
theorem dX1_addEstate_1 : decode cX1_addEstate 1 = .ok (.getfield 49, 3) := by decide +kernel
theorem dX1_addEstate_4 : decode cX1_addEstate 4 = .ok (.bipush 8, 2) := by decide +kernel
theorem dX1_addEstate_6 : decode cX1_addEstate 6 = .ok (.if_icmp .lt 5, 3) := by decide +kernel
theorem dX1_addEstate_11 : decode cX1_addEstate 11 = .ok (.aload_n 0, 1) := by decide +kernel
theorem dX1_addEstate_12 : decode cX1_addEstate 12 = .ok (.getfield 49, 3) := by decide +kernel
theorem dX1_addEstate_15 : decode cX1_addEstate 15 = .ok (.istore_n 3, 1) := by decide +kernel
theorem dX1_addEstate_16 : decode cX1_addEstate 16 = .ok (.aload_n 0, 1) := by decide +kernel
theorem dX1_addEstate_17 : decode cX1_addEstate 17 = .ok (.getfield 33, 3) := by decide +kernel
theorem dX1_addEstate_20 : decode cX1_addEstate 20 = .ok (.iload_n 3, 1) := by decide +kernel
theorem dX1_addEstate_21 : decode cX1_addEstate 21 = .ok (.iload_n 1, 1) := by decide +kernel
theorem dX1_addEstate_22 : decode cX1_addEstate 22 = .ok (.iastore, 1) := by decide +kernel
theorem dX1_addEstate_23 : decode cX1_addEstate 23 = .ok (.aload_n 0, 1) := by decide +kernel
theorem dX1_addEstate_24 : decode cX1_addEstate 24 = .ok (.getfield 36, 3) := by decide +kernel
theorem dX1_addEstate_27 : decode cX1_addEstate 27 = .ok (.iload_n 3, 1) := by decide +kernel
theorem dX1_addEstate_28 : decode cX1_addEstate 28 = .ok (.iload_n 2, 1) := by decide +kernel
theorem dX1_addEstate_29 : decode cX1_addEstate 29 = .ok (.iastore, 1) := by decide +kernel
theorem dX1_addEstate_30 : decode cX1_addEstate 30 = .ok (.aload_n 0, 1) := by decide +kernel
theorem dX1_addEstate_31 : decode cX1_addEstate 31 = .ok (.getfield 39, 3) := by decide +kernel
theorem dX1_addEstate_34 : decode cX1_addEstate 34 = .ok (.iload_n 3, 1) := by decide +kernel
theorem dX1_addEstate_35 : decode cX1_addEstate 35 = .ok (.iconst (-1), 1) := by decide +kernel
theorem dX1_addEstate_36 : decode cX1_addEstate 36 = .ok (.iastore, 1) := by decide +kernel
theorem dX1_addEstate_37 : decode cX1_addEstate 37 = .ok (.aload_n 0, 1) := by decide +kernel
theorem dX1_addEstate_38 : decode cX1_addEstate 38 = .ok (.dup, 1) := by decide +kernel
theorem dX1_addEstate_39 : decode cX1_addEstate 39 = .ok (.getfield 49, 3) := by decide +kernel
theorem dX1_addEstate_42 : decode cX1_addEstate 42 = .ok (.iconst 1, 1) := by decide +kernel
theorem dX1_addEstate_43 : decode cX1_addEstate 43 = .ok (.iadd, 1) := by decide +kernel
theorem dX1_addEstate_44 : decode cX1_addEstate 44 = .ok (.putfield 49, 3) := by decide +kernel
theorem dX1_addEstate_47 : decode cX1_addEstate 47 = .ok (.iload_n 3, 1) := by decide +kernel
theorem dX1_addEstate_48 : decode cX1_addEstate 48 = .ok (.ireturn, 1) := by decide +kernel
theorem dX1_addEstate_9 : decode cX1_addEstate 9 = .ok (.iconst (-1), 1) := by decide +kernel
theorem dX1_addEstate_10 : decode cX1_addEstate 10 = .ok (.ireturn, 1) := by decide +kernel
theorem dX1_addField_0 : decode cX1_addField 0 = .ok (.aload_n 0, 1) := by decide +kernel
theorem dX1_addField_1 : decode cX1_addField 1 = .ok (.getfield 46, 3) := by decide +kernel
theorem dX1_addField_4 : decode cX1_addField 4 = .ok (.bipush 40, 2) := by decide +kernel
theorem dX1_addField_6 : decode cX1_addField 6 = .ok (.if_icmp .lt 5, 3) := by decide +kernel
theorem dX1_addField_11 : decode cX1_addField 11 = .ok (.aload_n 0, 1) := by decide +kernel
theorem dX1_addField_12 : decode cX1_addField 12 = .ok (.getfield 46, 3) := by decide +kernel
theorem dX1_addField_15 : decode cX1_addField 15 = .ok (.istore 4, 2) := by decide +kernel
theorem dX1_addField_17 : decode cX1_addField 17 = .ok (.aload_n 0, 1) := by decide +kernel
theorem dX1_addField_18 : decode cX1_addField 18 = .ok (.getfield 9, 3) := by decide +kernel
theorem dX1_addField_21 : decode cX1_addField 21 = .ok (.iload 4, 2) := by decide +kernel
theorem dX1_addField_23 : decode cX1_addField 23 = .ok (.iload_n 1, 1) := by decide +kernel
theorem dX1_addField_24 : decode cX1_addField 24 = .ok (.iastore, 1) := by decide +kernel
theorem dX1_addField_25 : decode cX1_addField 25 = .ok (.aload_n 0, 1) := by decide +kernel
theorem dX1_addField_26 : decode cX1_addField 26 = .ok (.getfield 15, 3) := by decide +kernel
theorem dX1_addField_29 : decode cX1_addField 29 = .ok (.iload 4, 2) := by decide +kernel
theorem dX1_addField_31 : decode cX1_addField 31 = .ok (.iload_n 2, 1) := by decide +kernel
theorem dX1_addField_32 : decode cX1_addField 32 = .ok (.iastore, 1) := by decide +kernel
theorem dX1_addField_33 : decode cX1_addField 33 = .ok (.aload_n 0, 1) := by decide +kernel
theorem dX1_addField_34 : decode cX1_addField 34 = .ok (.getfield 18, 3) := by decide +kernel
theorem dX1_addField_37 : decode cX1_addField 37 = .ok (.iload 4, 2) := by decide +kernel
theorem dX1_addField_39 : decode cX1_addField 39 = .ok (.iload_n 3, 1) := by decide +kernel
theorem dX1_addField_40 : decode cX1_addField 40 = .ok (.iastore, 1) := by decide +kernel
theorem dX1_addField_41 : decode cX1_addField 41 = .ok (.aload_n 0, 1) := by decide +kernel
theorem dX1_addField_42 : decode cX1_addField 42 = .ok (.getfield 21, 3) := by decide +kernel
theorem dX1_addField_45 : decode cX1_addField 45 = .ok (.iload 4, 2) := by decide +kernel
theorem dX1_addField_47 : decode cX1_addField 47 = .ok (.iconst (-1), 1) := by decide +kernel
theorem dX1_addField_48 : decode cX1_addField 48 = .ok (.iastore, 1) := by decide +kernel
theorem dX1_addField_49 : decode cX1_addField 49 = .ok (.aload_n 0, 1) := by decide +kernel
theorem dX1_addField_50 : decode cX1_addField 50 = .ok (.getfield 24, 3) := by decide +kernel
theorem dX1_addField_53 : decode cX1_addField 53 = .ok (.iload 4, 2) := by decide +kernel
theorem dX1_addField_55 : decode cX1_addField 55 = .ok (.iconst 0, 1) := by decide +kernel
theorem dX1_addField_56 : decode cX1_addField 56 = .ok (.iastore, 1) := by decide +kernel
theorem dX1_addField_57 : decode cX1_addField 57 = .ok (.aload_n 0, 1) := by decide +kernel
theorem dX1_addField_58 : decode cX1_addField 58 = .ok (.getfield 27, 3) := by decide +kernel
theorem dX1_addField_61 : decode cX1_addField 61 = .ok (.iload 4, 2) := by decide +kernel
theorem dX1_addField_63 : decode cX1_addField 63 = .ok (.iconst 0, 1) := by decide +kernel
theorem dX1_addField_64 : decode cX1_addField 64 = .ok (.iastore, 1) := by decide +kernel
theorem dX1_addField_65 : decode cX1_addField 65 = .ok (.aload_n 0, 1) := by decide +kernel
theorem dX1_addField_66 : decode cX1_addField 66 = .ok (.getfield 30, 3) := by decide +kernel
theorem dX1_addField_69 : decode cX1_addField 69 = .ok (.iload 4, 2) := by decide +kernel
theorem dX1_addField_71 : decode cX1_addField 71 = .ok (.iconst 0, 1) := by decide +kernel
theorem dX1_addField_72 : decode cX1_addField 72 = .ok (.iastore, 1) := by decide +kernel
theorem dX1_addField_73 : decode cX1_addField 73 = .ok (.aload_n 0, 1) := by decide +kernel
theorem dX1_addField_74 : decode cX1_addField 74 = .ok (.dup, 1) := by decide +kernel
theorem dX1_addField_75 : decode cX1_addField 75 = .ok (.getfield 46, 3) := by decide +kernel
theorem dX1_addField_78 : decode cX1_addField 78 = .ok (.iconst 1, 1) := by decide +kernel
theorem dX1_addField_79 : decode cX1_addField 79 = .ok (.iadd, 1) := by decide +kernel
theorem dX1_addField_80 : decode cX1_addField 80 = .ok (.putfield 46, 3) := by decide +kernel
theorem dX1_addField_83 : decode cX1_addField 83 = .ok (.iload 4, 2) := by decide +kernel
theorem dX1_addField_85 : decode cX1_addField 85 = .ok (.ireturn, 1) := by decide +kernel
theorem dX1_addField_9 : decode cX1_addField 9 = .ok (.iconst (-1), 1) := by decide +kernel
theorem dX1_addField_10 : decode cX1_addField 10 = .ok (.ireturn, 1) := by decide +kernel
theorem dX1_copyFrom_0 : decode cX1_copyFrom 0 = .ok (.aload_n 0, 1) := by decide +kernel
theorem dX1_copyFrom_1 : decode cX1_copyFrom 1 = .ok (.aload_n 1, 1) := by decide +kernel
theorem dX1_copyFrom_2 : decode cX1_copyFrom 2 = .ok (.getfield 46, 3) := by decide +kernel
theorem dX1_copyFrom_5 : decode cX1_copyFrom 5 = .ok (.putfield 46, 3) := by decide +kernel
theorem dX1_copyFrom_8 : decode cX1_copyFrom 8 = .ok (.aload_n 1, 1) := by decide +kernel
theorem dX1_copyFrom_9 : decode cX1_copyFrom 9 = .ok (.getfield 9, 3) := by decide +kernel
theorem dX1_copyFrom_12 : decode cX1_copyFrom 12 = .ok (.iconst 0, 1) := by decide +kernel
theorem dX1_copyFrom_13 : decode cX1_copyFrom 13 = .ok (.aload_n 0, 1) := by decide +kernel
theorem dX1_copyFrom_14 : decode cX1_copyFrom 14 = .ok (.getfield 9, 3) := by decide +kernel
theorem dX1_copyFrom_17 : decode cX1_copyFrom 17 = .ok (.iconst 0, 1) := by decide +kernel
theorem dX1_copyFrom_18 : decode cX1_copyFrom 18 = .ok (.bipush 40, 2) := by decide +kernel
theorem dX1_copyFrom_20 : decode cX1_copyFrom 20 = .ok (.invokestatic 72, 3) := by decide +kernel
theorem dX1_copyFrom_23 : decode cX1_copyFrom 23 = .ok (.aload_n 1, 1) := by decide +kernel
theorem dX1_copyFrom_24 : decode cX1_copyFrom 24 = .ok (.getfield 15, 3) := by decide +kernel
theorem dX1_copyFrom_27 : decode cX1_copyFrom 27 = .ok (.iconst 0, 1) := by decide +kernel
theorem dX1_copyFrom_28 : decode cX1_copyFrom 28 = .ok (.aload_n 0, 1) := by decide +kernel
theorem dX1_copyFrom_29 : decode cX1_copyFrom 29 = .ok (.getfield 15, 3) := by decide +kernel
theorem dX1_copyFrom_32 : decode cX1_copyFrom 32 = .ok (.iconst 0, 1) := by decide +kernel
theorem dX1_copyFrom_33 : decode cX1_copyFrom 33 = .ok (.bipush 40, 2) := by decide +kernel
theorem dX1_copyFrom_35 : decode cX1_copyFrom 35 = .ok (.invokestatic 72, 3) := by decide +kernel
theorem dX1_copyFrom_38 : decode cX1_copyFrom 38 = .ok (.aload_n 1, 1) := by decide +kernel
theorem dX1_copyFrom_39 : decode cX1_copyFrom 39 = .ok (.getfield 18, 3) := by decide +kernel
theorem dX1_copyFrom_42 : decode cX1_copyFrom 42 = .ok (.iconst 0, 1) := by decide +kernel
theorem dX1_copyFrom_43 : decode cX1_copyFrom 43 = .ok (.aload_n 0, 1) := by decide +kernel
theorem dX1_copyFrom_44 : decode cX1_copyFrom 44 = .ok (.getfield 18, 3) := by decide +kernel
theorem dX1_copyFrom_47 : decode cX1_copyFrom 47 = .ok (.iconst 0, 1) := by decide +kernel
theorem dX1_copyFrom_48 : decode cX1_copyFrom 48 = .ok (.bipush 40, 2) := by decide +kernel
theorem dX1_copyFrom_50 : decode cX1_copyFrom 50 = .ok (.invokestatic 72, 3) := by decide +kernel
theorem dX1_copyFrom_53 : decode cX1_copyFrom 53 = .ok (.aload_n 1, 1) := by decide +kernel
theorem dX1_copyFrom_54 : decode cX1_copyFrom 54 = .ok (.getfield 21, 3) := by decide +kernel
theorem dX1_copyFrom_57 : decode cX1_copyFrom 57 = .ok (.iconst 0, 1) := by decide +kernel
theorem dX1_copyFrom_58 : decode cX1_copyFrom 58 = .ok (.aload_n 0, 1) := by decide +kernel
theorem dX1_copyFrom_59 : decode cX1_copyFrom 59 = .ok (.getfield 21, 3) := by decide +kernel
theorem dX1_copyFrom_62 : decode cX1_copyFrom 62 = .ok (.iconst 0, 1) := by decide +kernel
theorem dX1_copyFrom_63 : decode cX1_copyFrom 63 = .ok (.bipush 40, 2) := by decide +kernel
theorem dX1_copyFrom_65 : decode cX1_copyFrom 65 = .ok (.invokestatic 72, 3) := by decide +kernel
theorem dX1_copyFrom_68 : decode cX1_copyFrom 68 = .ok (.aload_n 1, 1) := by decide +kernel
theorem dX1_copyFrom_69 : decode cX1_copyFrom 69 = .ok (.getfield 24, 3) := by decide +kernel
theorem dX1_copyFrom_72 : decode cX1_copyFrom 72 = .ok (.iconst 0, 1) := by decide +kernel
theorem dX1_copyFrom_73 : decode cX1_copyFrom 73 = .ok (.aload_n 0, 1) := by decide +kernel
theorem dX1_copyFrom_74 : decode cX1_copyFrom 74 = .ok (.getfield 24, 3) := by decide +kernel
theorem dX1_copyFrom_77 : decode cX1_copyFrom 77 = .ok (.iconst 0, 1) := by decide +kernel
theorem dX1_copyFrom_78 : decode cX1_copyFrom 78 = .ok (.bipush 40, 2) := by decide +kernel
theorem dX1_copyFrom_80 : decode cX1_copyFrom 80 = .ok (.invokestatic 72, 3) := by decide +kernel
theorem dX1_copyFrom_83 : decode cX1_copyFrom 83 = .ok (.aload_n 1, 1) := by decide +kernel
theorem dX1_copyFrom_84 : decode cX1_copyFrom 84 = .ok (.getfield 27, 3) := by decide +kernel
theorem dX1_copyFrom_87 : decode cX1_copyFrom 87 = .ok (.iconst 0, 1) := by decide +kernel
theorem dX1_copyFrom_88 : decode cX1_copyFrom 88 = .ok (.aload_n 0, 1) := by decide +kernel
theorem dX1_copyFrom_89 : decode cX1_copyFrom 89 = .ok (.getfield 27, 3) := by decide +kernel
theorem dX1_copyFrom_92 : decode cX1_copyFrom 92 = .ok (.iconst 0, 1) := by decide +kernel
theorem dX1_copyFrom_93 : decode cX1_copyFrom 93 = .ok (.bipush 40, 2) := by decide +kernel
theorem dX1_copyFrom_95 : decode cX1_copyFrom 95 = .ok (.invokestatic 72, 3) := by decide +kernel
theorem dX1_copyFrom_98 : decode cX1_copyFrom 98 = .ok (.aload_n 1, 1) := by decide +kernel
theorem dX1_copyFrom_99 : decode cX1_copyFrom 99 = .ok (.getfield 30, 3) := by decide +kernel
theorem dX1_copyFrom_102 : decode cX1_copyFrom 102 = .ok (.iconst 0, 1) := by decide +kernel
theorem dX1_copyFrom_103 : decode cX1_copyFrom 103 = .ok (.aload_n 0, 1) := by decide +kernel
theorem dX1_copyFrom_104 : decode cX1_copyFrom 104 = .ok (.getfield 30, 3) := by decide +kernel
theorem dX1_copyFrom_107 : decode cX1_copyFrom 107 = .ok (.iconst 0, 1) := by decide +kernel
theorem dX1_copyFrom_108 : decode cX1_copyFrom 108 = .ok (.bipush 40, 2) := by decide +kernel
theorem dX1_copyFrom_110 : decode cX1_copyFrom 110 = .ok (.invokestatic 72, 3) := by decide +kernel
theorem dX1_copyFrom_113 : decode cX1_copyFrom 113 = .ok (.aload_n 0, 1) := by decide +kernel
theorem dX1_copyFrom_114 : decode cX1_copyFrom 114 = .ok (.aload_n 1, 1) := by decide +kernel
theorem dX1_copyFrom_115 : decode cX1_copyFrom 115 = .ok (.getfield 49, 3) := by decide +kernel
theorem dX1_copyFrom_118 : decode cX1_copyFrom 118 = .ok (.putfield 49, 3) := by decide +kernel
theorem dX1_copyFrom_121 : decode cX1_copyFrom 121 = .ok (.aload_n 1, 1) := by decide +kernel
theorem dX1_copyFrom_122 : decode cX1_copyFrom 122 = .ok (.getfield 33, 3) := by decide +kernel
theorem dX1_copyFrom_125 : decode cX1_copyFrom 125 = .ok (.iconst 0, 1) := by decide +kernel
theorem dX1_copyFrom_126 : decode cX1_copyFrom 126 = .ok (.aload_n 0, 1) := by decide +kernel
theorem dX1_copyFrom_127 : decode cX1_copyFrom 127 = .ok (.getfield 33, 3) := by decide +kernel
theorem dX1_copyFrom_130 : decode cX1_copyFrom 130 = .ok (.iconst 0, 1) := by decide +kernel
theorem dX1_copyFrom_131 : decode cX1_copyFrom 131 = .ok (.bipush 8, 2) := by decide +kernel
theorem dX1_copyFrom_133 : decode cX1_copyFrom 133 = .ok (.invokestatic 72, 3) := by decide +kernel
theorem dX1_copyFrom_136 : decode cX1_copyFrom 136 = .ok (.aload_n 1, 1) := by decide +kernel
theorem dX1_copyFrom_137 : decode cX1_copyFrom 137 = .ok (.getfield 36, 3) := by decide +kernel
theorem dX1_copyFrom_140 : decode cX1_copyFrom 140 = .ok (.iconst 0, 1) := by decide +kernel
theorem dX1_copyFrom_141 : decode cX1_copyFrom 141 = .ok (.aload_n 0, 1) := by decide +kernel
theorem dX1_copyFrom_142 : decode cX1_copyFrom 142 = .ok (.getfield 36, 3) := by decide +kernel
theorem dX1_copyFrom_145 : decode cX1_copyFrom 145 = .ok (.iconst 0, 1) := by decide +kernel
theorem dX1_copyFrom_146 : decode cX1_copyFrom 146 = .ok (.bipush 8, 2) := by decide +kernel
theorem dX1_copyFrom_148 : decode cX1_copyFrom 148 = .ok (.invokestatic 72, 3) := by decide +kernel
theorem dX1_copyFrom_151 : decode cX1_copyFrom 151 = .ok (.aload_n 1, 1) := by decide +kernel
theorem dX1_copyFrom_152 : decode cX1_copyFrom 152 = .ok (.getfield 39, 3) := by decide +kernel
theorem dX1_copyFrom_155 : decode cX1_copyFrom 155 = .ok (.iconst 0, 1) := by decide +kernel
theorem dX1_copyFrom_156 : decode cX1_copyFrom 156 = .ok (.aload_n 0, 1) := by decide +kernel
theorem dX1_copyFrom_157 : decode cX1_copyFrom 157 = .ok (.getfield 39, 3) := by decide +kernel
theorem dX1_copyFrom_160 : decode cX1_copyFrom 160 = .ok (.iconst 0, 1) := by decide +kernel
theorem dX1_copyFrom_161 : decode cX1_copyFrom 161 = .ok (.bipush 8, 2) := by decide +kernel
theorem dX1_copyFrom_163 : decode cX1_copyFrom 163 = .ok (.invokestatic 72, 3) := by decide +kernel
theorem dX1_copyFrom_166 : decode cX1_copyFrom 166 = .ok (.aload_n 0, 1) := by decide +kernel
theorem dX1_copyFrom_167 : decode cX1_copyFrom 167 = .ok (.aload_n 1, 1) := by decide +kernel
theorem dX1_copyFrom_168 : decode cX1_copyFrom 168 = .ok (.getfield 42, 3) := by decide +kernel
theorem dX1_copyFrom_171 : decode cX1_copyFrom 171 = .ok (.putfield 42, 3) := by decide +kernel
theorem dX1_copyFrom_174 : decode cX1_copyFrom 174 = .ok (.aload_n 0, 1) := by decide +kernel
theorem dX1_copyFrom_175 : decode cX1_copyFrom 175 = .ok (.aload_n 1, 1) := by decide +kernel
theorem dX1_copyFrom_176 : decode cX1_copyFrom 176 = .ok (.getfield 62, 3) := by decide +kernel
theorem dX1_copyFrom_179 : decode cX1_copyFrom 179 = .ok (.putfield 62, 3) := by decide +kernel
theorem dX1_copyFrom_182 : decode cX1_copyFrom 182 = .ok (.aload_n 0, 1) := by decide +kernel
theorem dX1_copyFrom_183 : decode cX1_copyFrom 183 = .ok (.aload_n 1, 1) := by decide +kernel
theorem dX1_copyFrom_184 : decode cX1_copyFrom 184 = .ok (.getfield 69, 3) := by decide +kernel
theorem dX1_copyFrom_187 : decode cX1_copyFrom 187 = .ok (.putfield 69, 3) := by decide +kernel
theorem dX1_copyFrom_190 : decode cX1_copyFrom 190 = .ok (.return_, 1) := by decide +kernel
theorem dX1_findAltered_0 : decode cX1_findAltered 0 = .ok (.aload_n 0, 1) := by decide +kernel
theorem dX1_findAltered_1 : decode cX1_findAltered 1 = .ok (.getfield 42, 3) := by decide +kernel
theorem dX1_findAltered_4 : decode cX1_findAltered 4 = .ok (.iconst (-1), 1) := by decide +kernel
theorem dX1_findAltered_5 : decode cX1_findAltered 5 = .ok (.if_icmp .ne 6, 3) := by decide +kernel
theorem dX1_findAltered_11 : decode cX1_findAltered 11 = .ok (.aload_n 0, 1) := by decide +kernel
theorem dX1_findAltered_12 : decode cX1_findAltered 12 = .ok (.getfield 46, 3) := by decide +kernel
theorem dX1_findAltered_15 : decode cX1_findAltered 15 = .ok (.aload_n 0, 1) := by decide +kernel
theorem dX1_findAltered_16 : decode cX1_findAltered 16 = .ok (.getfield 42, 3) := by decide +kernel
theorem dX1_findAltered_19 : decode cX1_findAltered 19 = .ok (.if_icmp .le 6, 3) := by decide +kernel
theorem dX1_findAltered_25 : decode cX1_findAltered 25 = .ok (.aload_n 0, 1) := by decide +kernel
theorem dX1_findAltered_26 : decode cX1_findAltered 26 = .ok (.invokevirtual 58, 3) := by decide +kernel
theorem dX1_sumOfRents_0 : decode cX1_sumOfRents 0 = .ok (.lconst 0, 1) := by decide +kernel
theorem dX1_sumOfRents_1 : decode cX1_sumOfRents 1 = .ok (.lstore_n 1, 1) := by decide +kernel
theorem dX1_sumOfRents_2 : decode cX1_sumOfRents 2 = .ok (.iconst 0, 1) := by decide +kernel
theorem dX1_sumOfRents_3 : decode cX1_sumOfRents 3 = .ok (.istore_n 3, 1) := by decide +kernel
theorem dX1_sumOfRents_4 : decode cX1_sumOfRents 4 = .ok (.iload_n 3, 1) := by decide +kernel
theorem dX1_sumOfRents_5 : decode cX1_sumOfRents 5 = .ok (.aload_n 0, 1) := by decide +kernel
theorem dX1_sumOfRents_6 : decode cX1_sumOfRents 6 = .ok (.getfield 46, 3) := by decide +kernel
theorem dX1_sumOfRents_9 : decode cX1_sumOfRents 9 = .ok (.if_icmp .ge 19, 3) := by decide +kernel
theorem dX1_sumOfRents_28 : decode cX1_sumOfRents 28 = .ok (.lload_n 1, 1) := by decide +kernel
theorem dX1_sumOfRents_29 : decode cX1_sumOfRents 29 = .ok (.lreturn, 1) := by decide +kernel
theorem dX1_sumOfRents_12 : decode cX1_sumOfRents 12 = .ok (.lload_n 1, 1) := by decide +kernel
theorem dX1_sumOfRents_13 : decode cX1_sumOfRents 13 = .ok (.aload_n 0, 1) := by decide +kernel
theorem dX1_sumOfRents_14 : decode cX1_sumOfRents 14 = .ok (.getfield 18, 3) := by decide +kernel
theorem dX1_sumOfRents_17 : decode cX1_sumOfRents 17 = .ok (.iload_n 3, 1) := by decide +kernel
theorem dX1_sumOfRents_18 : decode cX1_sumOfRents 18 = .ok (.iaload, 1) := by decide +kernel
theorem dX1_sumOfRents_19 : decode cX1_sumOfRents 19 = .ok (.i2l, 1) := by decide +kernel
theorem dX1_sumOfRents_20 : decode cX1_sumOfRents 20 = .ok (.ladd, 1) := by decide +kernel
theorem dX1_sumOfRents_21 : decode cX1_sumOfRents 21 = .ok (.lstore_n 1, 1) := by decide +kernel
theorem dX1_sumOfRents_22 : decode cX1_sumOfRents 22 = .ok (.iinc 3 1, 3) := by decide +kernel
theorem dX1_sumOfRents_25 : decode cX1_sumOfRents 25 = .ok (.goto (-21), 3) := by decide +kernel
theorem dX1_findAltered_29 : decode cX1_findAltered 29 = .ok (.aload_n 0, 1) := by decide +kernel
theorem dX1_findAltered_30 : decode cX1_findAltered 30 = .ok (.getfield 62, 3) := by decide +kernel
theorem dX1_findAltered_33 : decode cX1_findAltered 33 = .ok (.lsub, 1) := by decide +kernel
theorem dX1_findAltered_34 : decode cX1_findAltered 34 = .ok (.lstore_n 1, 1) := by decide +kernel
theorem dX1_findAltered_35 : decode cX1_findAltered 35 = .ok (.aload_n 0, 1) := by decide +kernel
theorem dX1_findAltered_36 : decode cX1_findAltered 36 = .ok (.invokevirtual 66, 3) := by decide +kernel
theorem dX1_sumByPlace_0 : decode cX1_sumByPlace 0 = .ok (.lconst 0, 1) := by decide +kernel
theorem dX1_sumByPlace_1 : decode cX1_sumByPlace 1 = .ok (.lstore_n 1, 1) := by decide +kernel
theorem dX1_sumByPlace_2 : decode cX1_sumByPlace 2 = .ok (.iconst 0, 1) := by decide +kernel
theorem dX1_sumByPlace_3 : decode cX1_sumByPlace 3 = .ok (.istore_n 3, 1) := by decide +kernel
theorem dX1_sumByPlace_4 : decode cX1_sumByPlace 4 = .ok (.iload_n 3, 1) := by decide +kernel
theorem dX1_sumByPlace_5 : decode cX1_sumByPlace 5 = .ok (.aload_n 0, 1) := by decide +kernel
theorem dX1_sumByPlace_6 : decode cX1_sumByPlace 6 = .ok (.getfield 46, 3) := by decide +kernel
theorem dX1_sumByPlace_9 : decode cX1_sumByPlace 9 = .ok (.if_icmp .ge 24, 3) := by decide +kernel
theorem dX1_sumByPlace_33 : decode cX1_sumByPlace 33 = .ok (.lload_n 1, 1) := by decide +kernel
theorem dX1_sumByPlace_34 : decode cX1_sumByPlace 34 = .ok (.lreturn, 1) := by decide +kernel
theorem dX1_sumByPlace_12 : decode cX1_sumByPlace 12 = .ok (.lload_n 1, 1) := by decide +kernel
theorem dX1_sumByPlace_13 : decode cX1_sumByPlace 13 = .ok (.aload_n 0, 1) := by decide +kernel
theorem dX1_sumByPlace_14 : decode cX1_sumByPlace 14 = .ok (.getfield 18, 3) := by decide +kernel
theorem dX1_sumByPlace_17 : decode cX1_sumByPlace 17 = .ok (.iload_n 3, 1) := by decide +kernel
theorem dX1_sumByPlace_18 : decode cX1_sumByPlace 18 = .ok (.iaload, 1) := by decide +kernel
theorem dX1_sumByPlace_19 : decode cX1_sumByPlace 19 = .ok (.i2l, 1) := by decide +kernel
theorem dX1_sumByPlace_20 : decode cX1_sumByPlace 20 = .ok (.iload_n 3, 1) := by decide +kernel
theorem dX1_sumByPlace_21 : decode cX1_sumByPlace 21 = .ok (.iconst 1, 1) := by decide +kernel
theorem dX1_sumByPlace_22 : decode cX1_sumByPlace 22 = .ok (.iadd, 1) := by decide +kernel
theorem dX1_sumByPlace_23 : decode cX1_sumByPlace 23 = .ok (.i2l, 1) := by decide +kernel
theorem dX1_sumByPlace_24 : decode cX1_sumByPlace 24 = .ok (.lmul, 1) := by decide +kernel
theorem dX1_sumByPlace_25 : decode cX1_sumByPlace 25 = .ok (.ladd, 1) := by decide +kernel
theorem dX1_sumByPlace_26 : decode cX1_sumByPlace 26 = .ok (.lstore_n 1, 1) := by decide +kernel
theorem dX1_sumByPlace_27 : decode cX1_sumByPlace 27 = .ok (.iinc 3 1, 3) := by decide +kernel
theorem dX1_sumByPlace_30 : decode cX1_sumByPlace 30 = .ok (.goto (-26), 3) := by decide +kernel
theorem dX1_findAltered_39 : decode cX1_findAltered 39 = .ok (.aload_n 0, 1) := by decide +kernel
theorem dX1_findAltered_40 : decode cX1_findAltered 40 = .ok (.getfield 69, 3) := by decide +kernel
theorem dX1_findAltered_43 : decode cX1_findAltered 43 = .ok (.lsub, 1) := by decide +kernel
theorem dX1_findAltered_44 : decode cX1_findAltered 44 = .ok (.lstore_n 3, 1) := by decide +kernel
theorem dX1_findAltered_45 : decode cX1_findAltered 45 = .ok (.lload_n 1, 1) := by decide +kernel
theorem dX1_findAltered_46 : decode cX1_findAltered 46 = .ok (.lconst 0, 1) := by decide +kernel
theorem dX1_findAltered_47 : decode cX1_findAltered 47 = .ok (.lcmp, 1) := by decide +kernel
theorem dX1_findAltered_48 : decode cX1_findAltered 48 = .ok (.ifCond .ne 11, 3) := by decide +kernel
theorem dX1_findAltered_59 : decode cX1_findAltered 59 = .ok (.iconst 0, 1) := by decide +kernel
theorem dX1_findAltered_60 : decode cX1_findAltered 60 = .ok (.istore 5, 2) := by decide +kernel
theorem dX1_findAltered_62 : decode cX1_findAltered 62 = .ok (.iload 5, 2) := by decide +kernel
theorem dX1_findAltered_64 : decode cX1_findAltered 64 = .ok (.aload_n 0, 1) := by decide +kernel
theorem dX1_findAltered_65 : decode cX1_findAltered 65 = .ok (.getfield 46, 3) := by decide +kernel
theorem dX1_findAltered_68 : decode cX1_findAltered 68 = .ok (.if_icmp .ge 24, 3) := by decide +kernel
theorem dX1_findAltered_92 : decode cX1_findAltered 92 = .ok (.bipush (-2), 2) := by decide +kernel
theorem dX1_findAltered_94 : decode cX1_findAltered 94 = .ok (.ireturn, 1) := by decide +kernel
theorem dX1_findAltered_71 : decode cX1_findAltered 71 = .ok (.lload_n 1, 1) := by decide +kernel
theorem dX1_findAltered_72 : decode cX1_findAltered 72 = .ok (.iload 5, 2) := by decide +kernel
theorem dX1_findAltered_74 : decode cX1_findAltered 74 = .ok (.iconst 1, 1) := by decide +kernel
theorem dX1_findAltered_75 : decode cX1_findAltered 75 = .ok (.iadd, 1) := by decide +kernel
theorem dX1_findAltered_76 : decode cX1_findAltered 76 = .ok (.i2l, 1) := by decide +kernel
theorem dX1_findAltered_77 : decode cX1_findAltered 77 = .ok (.lmul, 1) := by decide +kernel
theorem dX1_findAltered_78 : decode cX1_findAltered 78 = .ok (.lload_n 3, 1) := by decide +kernel
theorem dX1_findAltered_79 : decode cX1_findAltered 79 = .ok (.lcmp, 1) := by decide +kernel
theorem dX1_findAltered_80 : decode cX1_findAltered 80 = .ok (.ifCond .ne 6, 3) := by decide +kernel
theorem dX1_findAltered_86 : decode cX1_findAltered 86 = .ok (.iinc 5 1, 3) := by decide +kernel
theorem dX1_findAltered_89 : decode cX1_findAltered 89 = .ok (.goto (-27), 3) := by decide +kernel
theorem dX1_findAltered_83 : decode cX1_findAltered 83 = .ok (.iload 5, 2) := by decide +kernel
theorem dX1_findAltered_85 : decode cX1_findAltered 85 = .ok (.ireturn, 1) := by decide +kernel
theorem dX1_findAltered_51 : decode cX1_findAltered 51 = .ok (.lload_n 3, 1) := by decide +kernel
theorem dX1_findAltered_52 : decode cX1_findAltered 52 = .ok (.lconst 0, 1) := by decide +kernel
theorem dX1_findAltered_53 : decode cX1_findAltered 53 = .ok (.lcmp, 1) := by decide +kernel
theorem dX1_findAltered_54 : decode cX1_findAltered 54 = .ok (.ifCond .ne 5, 3) := by decide +kernel
theorem dX1_findAltered_57 : decode cX1_findAltered 57 = .ok (.iconst (-1), 1) := by decide +kernel
theorem dX1_findAltered_58 : decode cX1_findAltered 58 = .ok (.ireturn, 1) := by decide +kernel
theorem dX1_findAltered_22 : decode cX1_findAltered 22 = .ok (.bipush (-2), 2) := by decide +kernel
theorem dX1_findAltered_24 : decode cX1_findAltered 24 = .ok (.ireturn, 1) := by decide +kernel
theorem dX1_findAltered_8 : decode cX1_findAltered 8 = .ok (.bipush (-3), 2) := by decide +kernel
theorem dX1_findAltered_10 : decode cX1_findAltered 10 = .ok (.ireturn, 1) := by decide +kernel
theorem dX1_has_0 : decode cX1_has 0 = .ok (.iload_n 1, 1) := by decide +kernel
theorem dX1_has_1 : decode cX1_has 1 = .ok (.ifCond .lt 15, 3) := by decide +kernel
theorem dX1_has_16 : decode cX1_has 16 = .ok (.iconst 0, 1) := by decide +kernel
theorem dX1_has_17 : decode cX1_has 17 = .ok (.ireturn, 1) := by decide +kernel
theorem dX1_has_4 : decode cX1_has 4 = .ok (.iload_n 1, 1) := by decide +kernel
theorem dX1_has_5 : decode cX1_has 5 = .ok (.aload_n 0, 1) := by decide +kernel
theorem dX1_has_6 : decode cX1_has 6 = .ok (.getfield 46, 3) := by decide +kernel
theorem dX1_has_9 : decode cX1_has 9 = .ok (.if_icmp .ge 7, 3) := by decide +kernel
theorem dX1_has_12 : decode cX1_has 12 = .ok (.iconst 1, 1) := by decide +kernel
theorem dX1_has_13 : decode cX1_has 13 = .ok (.goto 4, 3) := by decide +kernel
theorem dX1_hasEstate_0 : decode cX1_hasEstate 0 = .ok (.iload_n 1, 1) := by decide +kernel
theorem dX1_hasEstate_1 : decode cX1_hasEstate 1 = .ok (.ifCond .lt 15, 3) := by decide +kernel
theorem dX1_hasEstate_16 : decode cX1_hasEstate 16 = .ok (.iconst 0, 1) := by decide +kernel
theorem dX1_hasEstate_17 : decode cX1_hasEstate 17 = .ok (.ireturn, 1) := by decide +kernel
theorem dX1_hasEstate_4 : decode cX1_hasEstate 4 = .ok (.iload_n 1, 1) := by decide +kernel
theorem dX1_hasEstate_5 : decode cX1_hasEstate 5 = .ok (.aload_n 0, 1) := by decide +kernel
theorem dX1_hasEstate_6 : decode cX1_hasEstate 6 = .ok (.getfield 49, 3) := by decide +kernel
theorem dX1_hasEstate_9 : decode cX1_hasEstate 9 = .ok (.if_icmp .ge 7, 3) := by decide +kernel
theorem dX1_hasEstate_12 : decode cX1_hasEstate 12 = .ok (.iconst 1, 1) := by decide +kernel
theorem dX1_hasEstate_13 : decode cX1_hasEstate 13 = .ok (.goto 4, 3) := by decide +kernel
theorem dX1_isGrabbedBy_0 : decode cX1_isGrabbedBy 0 = .ok (.iconst 0, 1) := by decide +kernel
theorem dX1_isGrabbedBy_1 : decode cX1_isGrabbedBy 1 = .ok (.istore_n 2, 1) := by decide +kernel
theorem dX1_isGrabbedBy_2 : decode cX1_isGrabbedBy 2 = .ok (.iload_n 2, 1) := by decide +kernel
theorem dX1_isGrabbedBy_3 : decode cX1_isGrabbedBy 3 = .ok (.aload_n 0, 1) := by decide +kernel
theorem dX1_isGrabbedBy_4 : decode cX1_isGrabbedBy 4 = .ok (.getfield 46, 3) := by decide +kernel
theorem dX1_isGrabbedBy_7 : decode cX1_isGrabbedBy 7 = .ok (.if_icmp .ge 31, 3) := by decide +kernel
theorem dX1_isGrabbedBy_38 : decode cX1_isGrabbedBy 38 = .ok (.iconst 0, 1) := by decide +kernel
theorem dX1_isGrabbedBy_39 : decode cX1_isGrabbedBy 39 = .ok (.ireturn, 1) := by decide +kernel
theorem dX1_isGrabbedBy_10 : decode cX1_isGrabbedBy 10 = .ok (.aload_n 0, 1) := by decide +kernel
theorem dX1_isGrabbedBy_11 : decode cX1_isGrabbedBy 11 = .ok (.getfield 21, 3) := by decide +kernel
theorem dX1_isGrabbedBy_14 : decode cX1_isGrabbedBy 14 = .ok (.iload_n 2, 1) := by decide +kernel
theorem dX1_isGrabbedBy_15 : decode cX1_isGrabbedBy 15 = .ok (.iaload, 1) := by decide +kernel
theorem dX1_isGrabbedBy_16 : decode cX1_isGrabbedBy 16 = .ok (.iload_n 1, 1) := by decide +kernel
theorem dX1_isGrabbedBy_17 : decode cX1_isGrabbedBy 17 = .ok (.if_icmp .ne 15, 3) := by decide +kernel
theorem dX1_isGrabbedBy_32 : decode cX1_isGrabbedBy 32 = .ok (.iinc 2 1, 3) := by decide +kernel
theorem dX1_isGrabbedBy_35 : decode cX1_isGrabbedBy 35 = .ok (.goto (-33), 3) := by decide +kernel
theorem dX1_isGrabbedBy_20 : decode cX1_isGrabbedBy 20 = .ok (.aload_n 0, 1) := by decide +kernel
theorem dX1_isGrabbedBy_21 : decode cX1_isGrabbedBy 21 = .ok (.getfield 27, 3) := by decide +kernel
theorem dX1_isGrabbedBy_24 : decode cX1_isGrabbedBy 24 = .ok (.iload_n 2, 1) := by decide +kernel
theorem dX1_isGrabbedBy_25 : decode cX1_isGrabbedBy 25 = .ok (.iaload, 1) := by decide +kernel
theorem dX1_isGrabbedBy_26 : decode cX1_isGrabbedBy 26 = .ok (.iconst 1, 1) := by decide +kernel
theorem dX1_isGrabbedBy_27 : decode cX1_isGrabbedBy 27 = .ok (.if_icmp .ne 5, 3) := by decide +kernel
theorem dX1_isGrabbedBy_30 : decode cX1_isGrabbedBy 30 = .ok (.iconst 1, 1) := by decide +kernel
theorem dX1_isGrabbedBy_31 : decode cX1_isGrabbedBy 31 = .ok (.ireturn, 1) := by decide +kernel
theorem dX1_isHeldBy_0 : decode cX1_isHeldBy 0 = .ok (.iconst 0, 1) := by decide +kernel
theorem dX1_isHeldBy_1 : decode cX1_isHeldBy 1 = .ok (.istore_n 2, 1) := by decide +kernel
theorem dX1_isHeldBy_2 : decode cX1_isHeldBy 2 = .ok (.iload_n 2, 1) := by decide +kernel
theorem dX1_isHeldBy_3 : decode cX1_isHeldBy 3 = .ok (.aload_n 0, 1) := by decide +kernel
theorem dX1_isHeldBy_4 : decode cX1_isHeldBy 4 = .ok (.getfield 46, 3) := by decide +kernel
theorem dX1_isHeldBy_7 : decode cX1_isHeldBy 7 = .ok (.if_icmp .ge 21, 3) := by decide +kernel
theorem dX1_isHeldBy_28 : decode cX1_isHeldBy 28 = .ok (.iconst 0, 1) := by decide +kernel
theorem dX1_isHeldBy_29 : decode cX1_isHeldBy 29 = .ok (.ireturn, 1) := by decide +kernel
theorem dX1_isHeldBy_10 : decode cX1_isHeldBy 10 = .ok (.aload_n 0, 1) := by decide +kernel
theorem dX1_isHeldBy_11 : decode cX1_isHeldBy 11 = .ok (.getfield 21, 3) := by decide +kernel
theorem dX1_isHeldBy_14 : decode cX1_isHeldBy 14 = .ok (.iload_n 2, 1) := by decide +kernel
theorem dX1_isHeldBy_15 : decode cX1_isHeldBy 15 = .ok (.iaload, 1) := by decide +kernel
theorem dX1_isHeldBy_16 : decode cX1_isHeldBy 16 = .ok (.iload_n 1, 1) := by decide +kernel
theorem dX1_isHeldBy_17 : decode cX1_isHeldBy 17 = .ok (.if_icmp .ne 5, 3) := by decide +kernel
theorem dX1_isHeldBy_22 : decode cX1_isHeldBy 22 = .ok (.iinc 2 1, 3) := by decide +kernel
theorem dX1_isHeldBy_25 : decode cX1_isHeldBy 25 = .ok (.goto (-23), 3) := by decide +kernel
theorem dX1_isHeldBy_20 : decode cX1_isHeldBy 20 = .ok (.iconst 1, 1) := by decide +kernel
theorem dX1_isHeldBy_21 : decode cX1_isHeldBy 21 = .ok (.ireturn, 1) := by decide +kernel
theorem dX1_keepSums_0 : decode cX1_keepSums 0 = .ok (.aload_n 0, 1) := by decide +kernel
theorem dX1_keepSums_1 : decode cX1_keepSums 1 = .ok (.aload_n 0, 1) := by decide +kernel
theorem dX1_keepSums_2 : decode cX1_keepSums 2 = .ok (.getfield 46, 3) := by decide +kernel
theorem dX1_keepSums_5 : decode cX1_keepSums 5 = .ok (.putfield 42, 3) := by decide +kernel
theorem dX1_keepSums_8 : decode cX1_keepSums 8 = .ok (.aload_n 0, 1) := by decide +kernel
theorem dX1_keepSums_9 : decode cX1_keepSums 9 = .ok (.aload_n 0, 1) := by decide +kernel
theorem dX1_keepSums_10 : decode cX1_keepSums 10 = .ok (.invokevirtual 58, 3) := by decide +kernel
theorem dX1_keepSums_13 : decode cX1_keepSums 13 = .ok (.putfield 62, 3) := by decide +kernel
theorem dX1_keepSums_16 : decode cX1_keepSums 16 = .ok (.aload_n 0, 1) := by decide +kernel
theorem dX1_keepSums_17 : decode cX1_keepSums 17 = .ok (.aload_n 0, 1) := by decide +kernel
theorem dX1_keepSums_18 : decode cX1_keepSums 18 = .ok (.invokevirtual 66, 3) := by decide +kernel
theorem dX1_keepSums_21 : decode cX1_keepSums 21 = .ok (.putfield 69, 3) := by decide +kernel
theorem dX1_keepSums_24 : decode cX1_keepSums 24 = .ok (.return_, 1) := by decide +kernel
theorem dX1_rentOf_0 : decode cX1_rentOf 0 = .ok (.aload_n 0, 1) := by decide +kernel
theorem dX1_rentOf_1 : decode cX1_rentOf 1 = .ok (.getfield 18, 3) := by decide +kernel
theorem dX1_rentOf_4 : decode cX1_rentOf 4 = .ok (.iload_n 1, 1) := by decide +kernel
theorem dX1_rentOf_5 : decode cX1_rentOf 5 = .ok (.iaload, 1) := by decide +kernel
theorem dX1_rentOf_6 : decode cX1_rentOf 6 = .ok (.iconst 0, 1) := by decide +kernel
theorem dX1_rentOf_7 : decode cX1_rentOf 7 = .ok (.invokestatic 52, 3) := by decide +kernel
theorem dX1_rentOf_10 : decode cX1_rentOf 10 = .ok (.ireturn, 1) := by decide +kernel
theorem dX10_add_0 : decode cX10_add 0 = .ok (.aload_n 0, 1) := by decide +kernel
theorem dX10_add_1 : decode cX10_add 1 = .ok (.getfield 39, 3) := by decide +kernel
theorem dX10_add_4 : decode cX10_add 4 = .ok (.bipush 60, 2) := by decide +kernel
theorem dX10_add_6 : decode cX10_add 6 = .ok (.if_icmp .lt 4, 3) := by decide +kernel
theorem dX10_add_10 : decode cX10_add 10 = .ok (.aload_n 0, 1) := by decide +kernel
theorem dX10_add_11 : decode cX10_add 11 = .ok (.getfield 9, 3) := by decide +kernel
theorem dX10_add_14 : decode cX10_add 14 = .ok (.aload_n 0, 1) := by decide +kernel
theorem dX10_add_15 : decode cX10_add 15 = .ok (.getfield 39, 3) := by decide +kernel
theorem dX10_add_18 : decode cX10_add 18 = .ok (.iload_n 1, 1) := by decide +kernel
theorem dX10_add_19 : decode cX10_add 19 = .ok (.iastore, 1) := by decide +kernel
theorem dX10_add_20 : decode cX10_add 20 = .ok (.aload_n 0, 1) := by decide +kernel
theorem dX10_add_21 : decode cX10_add 21 = .ok (.getfield 15, 3) := by decide +kernel
theorem dX10_add_24 : decode cX10_add 24 = .ok (.aload_n 0, 1) := by decide +kernel
theorem dX10_add_25 : decode cX10_add 25 = .ok (.getfield 39, 3) := by decide +kernel
theorem dX10_add_28 : decode cX10_add 28 = .ok (.iload_n 2, 1) := by decide +kernel
theorem dX10_add_29 : decode cX10_add 29 = .ok (.iastore, 1) := by decide +kernel
theorem dX10_add_30 : decode cX10_add 30 = .ok (.aload_n 0, 1) := by decide +kernel
theorem dX10_add_31 : decode cX10_add 31 = .ok (.getfield 18, 3) := by decide +kernel
theorem dX10_add_34 : decode cX10_add 34 = .ok (.aload_n 0, 1) := by decide +kernel
theorem dX10_add_35 : decode cX10_add 35 = .ok (.getfield 39, 3) := by decide +kernel
theorem dX10_add_38 : decode cX10_add 38 = .ok (.iconst 0, 1) := by decide +kernel
theorem dX10_add_39 : decode cX10_add 39 = .ok (.iastore, 1) := by decide +kernel
theorem dX10_add_40 : decode cX10_add 40 = .ok (.aload_n 0, 1) := by decide +kernel
theorem dX10_add_41 : decode cX10_add 41 = .ok (.getfield 21, 3) := by decide +kernel
theorem dX10_add_44 : decode cX10_add 44 = .ok (.aload_n 0, 1) := by decide +kernel
theorem dX10_add_45 : decode cX10_add 45 = .ok (.getfield 39, 3) := by decide +kernel
theorem dX10_add_48 : decode cX10_add 48 = .ok (.iload_n 3, 1) := by decide +kernel
theorem dX10_add_49 : decode cX10_add 49 = .ok (.iastore, 1) := by decide +kernel
theorem dX10_add_50 : decode cX10_add 50 = .ok (.aload_n 0, 1) := by decide +kernel
theorem dX10_add_51 : decode cX10_add 51 = .ok (.getfield 24, 3) := by decide +kernel
theorem dX10_add_54 : decode cX10_add 54 = .ok (.aload_n 0, 1) := by decide +kernel
theorem dX10_add_55 : decode cX10_add 55 = .ok (.getfield 39, 3) := by decide +kernel
theorem dX10_add_58 : decode cX10_add 58 = .ok (.iload 4, 2) := by decide +kernel
theorem dX10_add_60 : decode cX10_add 60 = .ok (.iastore, 1) := by decide +kernel
theorem dX10_add_61 : decode cX10_add 61 = .ok (.aload_n 0, 1) := by decide +kernel
theorem dX10_add_62 : decode cX10_add 62 = .ok (.getfield 27, 3) := by decide +kernel
theorem dX10_add_65 : decode cX10_add 65 = .ok (.aload_n 0, 1) := by decide +kernel
theorem dX10_add_66 : decode cX10_add 66 = .ok (.getfield 39, 3) := by decide +kernel
theorem dX10_add_69 : decode cX10_add 69 = .ok (.iconst 1, 1) := by decide +kernel
theorem dX10_add_70 : decode cX10_add 70 = .ok (.iastore, 1) := by decide +kernel
theorem dX10_add_71 : decode cX10_add 71 = .ok (.aload_n 0, 1) := by decide +kernel
theorem dX10_add_72 : decode cX10_add 72 = .ok (.dup, 1) := by decide +kernel
theorem dX10_add_73 : decode cX10_add 73 = .ok (.getfield 39, 3) := by decide +kernel
theorem dX10_add_76 : decode cX10_add 76 = .ok (.iconst 1, 1) := by decide +kernel
theorem dX10_add_77 : decode cX10_add 77 = .ok (.iadd, 1) := by decide +kernel
theorem dX10_add_78 : decode cX10_add 78 = .ok (.putfield 39, 3) := by decide +kernel
theorem dX10_add_81 : decode cX10_add 81 = .ok (.return_, 1) := by decide +kernel
theorem dX10_add_9 : decode cX10_add 9 = .ok (.return_, 1) := by decide +kernel
theorem dX10_addGuard_0 : decode cX10_addGuard 0 = .ok (.aload_n 0, 1) := by decide +kernel
theorem dX10_addGuard_1 : decode cX10_addGuard 1 = .ok (.getfield 43, 3) := by decide +kernel
theorem dX10_addGuard_4 : decode cX10_addGuard 4 = .ok (.bipush 40, 2) := by decide +kernel
theorem dX10_addGuard_6 : decode cX10_addGuard 6 = .ok (.if_icmp .lt 4, 3) := by decide +kernel
theorem dX10_addGuard_10 : decode cX10_addGuard 10 = .ok (.aload_n 0, 1) := by decide +kernel
theorem dX10_addGuard_11 : decode cX10_addGuard 11 = .ok (.getfield 30, 3) := by decide +kernel
theorem dX10_addGuard_14 : decode cX10_addGuard 14 = .ok (.aload_n 0, 1) := by decide +kernel
theorem dX10_addGuard_15 : decode cX10_addGuard 15 = .ok (.getfield 43, 3) := by decide +kernel
theorem dX10_addGuard_18 : decode cX10_addGuard 18 = .ok (.iload_n 1, 1) := by decide +kernel
theorem dX10_addGuard_19 : decode cX10_addGuard 19 = .ok (.iastore, 1) := by decide +kernel
theorem dX10_addGuard_20 : decode cX10_addGuard 20 = .ok (.aload_n 0, 1) := by decide +kernel
theorem dX10_addGuard_21 : decode cX10_addGuard 21 = .ok (.getfield 33, 3) := by decide +kernel
theorem dX10_addGuard_24 : decode cX10_addGuard 24 = .ok (.aload_n 0, 1) := by decide +kernel
theorem dX10_addGuard_25 : decode cX10_addGuard 25 = .ok (.getfield 43, 3) := by decide +kernel
theorem dX10_addGuard_28 : decode cX10_addGuard 28 = .ok (.iload_n 2, 1) := by decide +kernel
theorem dX10_addGuard_29 : decode cX10_addGuard 29 = .ok (.iastore, 1) := by decide +kernel
theorem dX10_addGuard_30 : decode cX10_addGuard 30 = .ok (.aload_n 0, 1) := by decide +kernel
theorem dX10_addGuard_31 : decode cX10_addGuard 31 = .ok (.getfield 36, 3) := by decide +kernel
theorem dX10_addGuard_34 : decode cX10_addGuard 34 = .ok (.aload_n 0, 1) := by decide +kernel
theorem dX10_addGuard_35 : decode cX10_addGuard 35 = .ok (.getfield 43, 3) := by decide +kernel
theorem dX10_addGuard_38 : decode cX10_addGuard 38 = .ok (.iload_n 3, 1) := by decide +kernel
theorem dX10_addGuard_39 : decode cX10_addGuard 39 = .ok (.iastore, 1) := by decide +kernel
theorem dX10_addGuard_40 : decode cX10_addGuard 40 = .ok (.aload_n 0, 1) := by decide +kernel
theorem dX10_addGuard_41 : decode cX10_addGuard 41 = .ok (.dup, 1) := by decide +kernel
theorem dX10_addGuard_42 : decode cX10_addGuard 42 = .ok (.getfield 43, 3) := by decide +kernel
theorem dX10_addGuard_45 : decode cX10_addGuard 45 = .ok (.iconst 1, 1) := by decide +kernel
theorem dX10_addGuard_46 : decode cX10_addGuard 46 = .ok (.iadd, 1) := by decide +kernel
theorem dX10_addGuard_47 : decode cX10_addGuard 47 = .ok (.putfield 43, 3) := by decide +kernel
theorem dX10_addGuard_50 : decode cX10_addGuard 50 = .ok (.return_, 1) := by decide +kernel
theorem dX10_addGuard_9 : decode cX10_addGuard 9 = .ok (.return_, 1) := by decide +kernel
theorem dX10_copyFrom_0 : decode cX10_copyFrom 0 = .ok (.aload_n 0, 1) := by decide +kernel
theorem dX10_copyFrom_1 : decode cX10_copyFrom 1 = .ok (.aload_n 1, 1) := by decide +kernel
theorem dX10_copyFrom_2 : decode cX10_copyFrom 2 = .ok (.getfield 39, 3) := by decide +kernel
theorem dX10_copyFrom_5 : decode cX10_copyFrom 5 = .ok (.putfield 39, 3) := by decide +kernel
theorem dX10_copyFrom_8 : decode cX10_copyFrom 8 = .ok (.aload_n 1, 1) := by decide +kernel
theorem dX10_copyFrom_9 : decode cX10_copyFrom 9 = .ok (.getfield 9, 3) := by decide +kernel
theorem dX10_copyFrom_12 : decode cX10_copyFrom 12 = .ok (.iconst 0, 1) := by decide +kernel
theorem dX10_copyFrom_13 : decode cX10_copyFrom 13 = .ok (.aload_n 0, 1) := by decide +kernel
theorem dX10_copyFrom_14 : decode cX10_copyFrom 14 = .ok (.getfield 9, 3) := by decide +kernel
theorem dX10_copyFrom_17 : decode cX10_copyFrom 17 = .ok (.iconst 0, 1) := by decide +kernel
theorem dX10_copyFrom_18 : decode cX10_copyFrom 18 = .ok (.bipush 60, 2) := by decide +kernel
theorem dX10_copyFrom_20 : decode cX10_copyFrom 20 = .ok (.invokestatic 50, 3) := by decide +kernel
theorem dX10_copyFrom_23 : decode cX10_copyFrom 23 = .ok (.aload_n 1, 1) := by decide +kernel
theorem dX10_copyFrom_24 : decode cX10_copyFrom 24 = .ok (.getfield 15, 3) := by decide +kernel
theorem dX10_copyFrom_27 : decode cX10_copyFrom 27 = .ok (.iconst 0, 1) := by decide +kernel
theorem dX10_copyFrom_28 : decode cX10_copyFrom 28 = .ok (.aload_n 0, 1) := by decide +kernel
theorem dX10_copyFrom_29 : decode cX10_copyFrom 29 = .ok (.getfield 15, 3) := by decide +kernel
theorem dX10_copyFrom_32 : decode cX10_copyFrom 32 = .ok (.iconst 0, 1) := by decide +kernel
theorem dX10_copyFrom_33 : decode cX10_copyFrom 33 = .ok (.bipush 60, 2) := by decide +kernel
theorem dX10_copyFrom_35 : decode cX10_copyFrom 35 = .ok (.invokestatic 50, 3) := by decide +kernel
theorem dX10_copyFrom_38 : decode cX10_copyFrom 38 = .ok (.aload_n 1, 1) := by decide +kernel
theorem dX10_copyFrom_39 : decode cX10_copyFrom 39 = .ok (.getfield 18, 3) := by decide +kernel
theorem dX10_copyFrom_42 : decode cX10_copyFrom 42 = .ok (.iconst 0, 1) := by decide +kernel
theorem dX10_copyFrom_43 : decode cX10_copyFrom 43 = .ok (.aload_n 0, 1) := by decide +kernel
theorem dX10_copyFrom_44 : decode cX10_copyFrom 44 = .ok (.getfield 18, 3) := by decide +kernel
theorem dX10_copyFrom_47 : decode cX10_copyFrom 47 = .ok (.iconst 0, 1) := by decide +kernel
theorem dX10_copyFrom_48 : decode cX10_copyFrom 48 = .ok (.bipush 60, 2) := by decide +kernel
theorem dX10_copyFrom_50 : decode cX10_copyFrom 50 = .ok (.invokestatic 50, 3) := by decide +kernel
theorem dX10_copyFrom_53 : decode cX10_copyFrom 53 = .ok (.aload_n 1, 1) := by decide +kernel
theorem dX10_copyFrom_54 : decode cX10_copyFrom 54 = .ok (.getfield 21, 3) := by decide +kernel
theorem dX10_copyFrom_57 : decode cX10_copyFrom 57 = .ok (.iconst 0, 1) := by decide +kernel
theorem dX10_copyFrom_58 : decode cX10_copyFrom 58 = .ok (.aload_n 0, 1) := by decide +kernel
theorem dX10_copyFrom_59 : decode cX10_copyFrom 59 = .ok (.getfield 21, 3) := by decide +kernel
theorem dX10_copyFrom_62 : decode cX10_copyFrom 62 = .ok (.iconst 0, 1) := by decide +kernel
theorem dX10_copyFrom_63 : decode cX10_copyFrom 63 = .ok (.bipush 60, 2) := by decide +kernel
theorem dX10_copyFrom_65 : decode cX10_copyFrom 65 = .ok (.invokestatic 50, 3) := by decide +kernel
theorem dX10_copyFrom_68 : decode cX10_copyFrom 68 = .ok (.aload_n 1, 1) := by decide +kernel
theorem dX10_copyFrom_69 : decode cX10_copyFrom 69 = .ok (.getfield 24, 3) := by decide +kernel
theorem dX10_copyFrom_72 : decode cX10_copyFrom 72 = .ok (.iconst 0, 1) := by decide +kernel
theorem dX10_copyFrom_73 : decode cX10_copyFrom 73 = .ok (.aload_n 0, 1) := by decide +kernel
theorem dX10_copyFrom_74 : decode cX10_copyFrom 74 = .ok (.getfield 24, 3) := by decide +kernel
theorem dX10_copyFrom_77 : decode cX10_copyFrom 77 = .ok (.iconst 0, 1) := by decide +kernel
theorem dX10_copyFrom_78 : decode cX10_copyFrom 78 = .ok (.bipush 60, 2) := by decide +kernel
theorem dX10_copyFrom_80 : decode cX10_copyFrom 80 = .ok (.invokestatic 50, 3) := by decide +kernel
theorem dX10_copyFrom_83 : decode cX10_copyFrom 83 = .ok (.aload_n 1, 1) := by decide +kernel
theorem dX10_copyFrom_84 : decode cX10_copyFrom 84 = .ok (.getfield 27, 3) := by decide +kernel
theorem dX10_copyFrom_87 : decode cX10_copyFrom 87 = .ok (.iconst 0, 1) := by decide +kernel
theorem dX10_copyFrom_88 : decode cX10_copyFrom 88 = .ok (.aload_n 0, 1) := by decide +kernel
theorem dX10_copyFrom_89 : decode cX10_copyFrom 89 = .ok (.getfield 27, 3) := by decide +kernel
theorem dX10_copyFrom_92 : decode cX10_copyFrom 92 = .ok (.iconst 0, 1) := by decide +kernel
theorem dX10_copyFrom_93 : decode cX10_copyFrom 93 = .ok (.bipush 60, 2) := by decide +kernel
theorem dX10_copyFrom_95 : decode cX10_copyFrom 95 = .ok (.invokestatic 50, 3) := by decide +kernel
theorem dX10_copyFrom_98 : decode cX10_copyFrom 98 = .ok (.aload_n 0, 1) := by decide +kernel
theorem dX10_copyFrom_99 : decode cX10_copyFrom 99 = .ok (.aload_n 1, 1) := by decide +kernel
theorem dX10_copyFrom_100 : decode cX10_copyFrom 100 = .ok (.getfield 43, 3) := by decide +kernel
theorem dX10_copyFrom_103 : decode cX10_copyFrom 103 = .ok (.putfield 43, 3) := by decide +kernel
theorem dX10_copyFrom_106 : decode cX10_copyFrom 106 = .ok (.aload_n 1, 1) := by decide +kernel
theorem dX10_copyFrom_107 : decode cX10_copyFrom 107 = .ok (.getfield 30, 3) := by decide +kernel
theorem dX10_copyFrom_110 : decode cX10_copyFrom 110 = .ok (.iconst 0, 1) := by decide +kernel
theorem dX10_copyFrom_111 : decode cX10_copyFrom 111 = .ok (.aload_n 0, 1) := by decide +kernel
theorem dX10_copyFrom_112 : decode cX10_copyFrom 112 = .ok (.getfield 30, 3) := by decide +kernel
theorem dX10_copyFrom_115 : decode cX10_copyFrom 115 = .ok (.iconst 0, 1) := by decide +kernel
theorem dX10_copyFrom_116 : decode cX10_copyFrom 116 = .ok (.bipush 40, 2) := by decide +kernel
theorem dX10_copyFrom_118 : decode cX10_copyFrom 118 = .ok (.invokestatic 50, 3) := by decide +kernel
theorem dX10_copyFrom_121 : decode cX10_copyFrom 121 = .ok (.aload_n 1, 1) := by decide +kernel
theorem dX10_copyFrom_122 : decode cX10_copyFrom 122 = .ok (.getfield 33, 3) := by decide +kernel
theorem dX10_copyFrom_125 : decode cX10_copyFrom 125 = .ok (.iconst 0, 1) := by decide +kernel
theorem dX10_copyFrom_126 : decode cX10_copyFrom 126 = .ok (.aload_n 0, 1) := by decide +kernel
theorem dX10_copyFrom_127 : decode cX10_copyFrom 127 = .ok (.getfield 33, 3) := by decide +kernel
theorem dX10_copyFrom_130 : decode cX10_copyFrom 130 = .ok (.iconst 0, 1) := by decide +kernel
theorem dX10_copyFrom_131 : decode cX10_copyFrom 131 = .ok (.bipush 40, 2) := by decide +kernel
theorem dX10_copyFrom_133 : decode cX10_copyFrom 133 = .ok (.invokestatic 50, 3) := by decide +kernel
theorem dX10_copyFrom_136 : decode cX10_copyFrom 136 = .ok (.aload_n 1, 1) := by decide +kernel
theorem dX10_copyFrom_137 : decode cX10_copyFrom 137 = .ok (.getfield 36, 3) := by decide +kernel
theorem dX10_copyFrom_140 : decode cX10_copyFrom 140 = .ok (.iconst 0, 1) := by decide +kernel
theorem dX10_copyFrom_141 : decode cX10_copyFrom 141 = .ok (.aload_n 0, 1) := by decide +kernel
theorem dX10_copyFrom_142 : decode cX10_copyFrom 142 = .ok (.getfield 36, 3) := by decide +kernel
theorem dX10_copyFrom_145 : decode cX10_copyFrom 145 = .ok (.iconst 0, 1) := by decide +kernel
theorem dX10_copyFrom_146 : decode cX10_copyFrom 146 = .ok (.bipush 40, 2) := by decide +kernel
theorem dX10_copyFrom_148 : decode cX10_copyFrom 148 = .ok (.invokestatic 50, 3) := by decide +kernel
theorem dX10_copyFrom_151 : decode cX10_copyFrom 151 = .ok (.return_, 1) := by decide +kernel
theorem dX10_isGuarded_0 : decode cX10_isGuarded 0 = .ok (.iconst 0, 1) := by decide +kernel
theorem dX10_isGuarded_1 : decode cX10_isGuarded 1 = .ok (.istore_n 3, 1) := by decide +kernel
theorem dX10_isGuarded_2 : decode cX10_isGuarded 2 = .ok (.iload_n 3, 1) := by decide +kernel
theorem dX10_isGuarded_3 : decode cX10_isGuarded 3 = .ok (.aload_n 0, 1) := by decide +kernel
theorem dX10_isGuarded_4 : decode cX10_isGuarded 4 = .ok (.getfield 43, 3) := by decide +kernel
theorem dX10_isGuarded_7 : decode cX10_isGuarded 7 = .ok (.if_icmp .ge 41, 3) := by decide +kernel
theorem dX10_isGuarded_48 : decode cX10_isGuarded 48 = .ok (.iconst 0, 1) := by decide +kernel
theorem dX10_isGuarded_49 : decode cX10_isGuarded 49 = .ok (.ireturn, 1) := by decide +kernel
theorem dX10_isGuarded_10 : decode cX10_isGuarded 10 = .ok (.aload_n 0, 1) := by decide +kernel
theorem dX10_isGuarded_11 : decode cX10_isGuarded 11 = .ok (.getfield 30, 3) := by decide +kernel
theorem dX10_isGuarded_14 : decode cX10_isGuarded 14 = .ok (.iload_n 3, 1) := by decide +kernel
theorem dX10_isGuarded_15 : decode cX10_isGuarded 15 = .ok (.iaload, 1) := by decide +kernel
theorem dX10_isGuarded_16 : decode cX10_isGuarded 16 = .ok (.iload_n 1, 1) := by decide +kernel
theorem dX10_isGuarded_17 : decode cX10_isGuarded 17 = .ok (.if_icmp .ne 25, 3) := by decide +kernel
theorem dX10_isGuarded_42 : decode cX10_isGuarded 42 = .ok (.iinc 3 1, 3) := by decide +kernel
theorem dX10_isGuarded_45 : decode cX10_isGuarded 45 = .ok (.goto (-43), 3) := by decide +kernel
theorem dX10_isGuarded_20 : decode cX10_isGuarded 20 = .ok (.iload_n 2, 1) := by decide +kernel
theorem dX10_isGuarded_21 : decode cX10_isGuarded 21 = .ok (.aload_n 0, 1) := by decide +kernel
theorem dX10_isGuarded_22 : decode cX10_isGuarded 22 = .ok (.getfield 33, 3) := by decide +kernel
theorem dX10_isGuarded_25 : decode cX10_isGuarded 25 = .ok (.iload_n 3, 1) := by decide +kernel
theorem dX10_isGuarded_26 : decode cX10_isGuarded 26 = .ok (.iaload, 1) := by decide +kernel
theorem dX10_isGuarded_27 : decode cX10_isGuarded 27 = .ok (.if_icmp .lt 15, 3) := by decide +kernel
theorem dX10_isGuarded_30 : decode cX10_isGuarded 30 = .ok (.iload_n 2, 1) := by decide +kernel
theorem dX10_isGuarded_31 : decode cX10_isGuarded 31 = .ok (.aload_n 0, 1) := by decide +kernel
theorem dX10_isGuarded_32 : decode cX10_isGuarded 32 = .ok (.getfield 36, 3) := by decide +kernel
theorem dX10_isGuarded_35 : decode cX10_isGuarded 35 = .ok (.iload_n 3, 1) := by decide +kernel
theorem dX10_isGuarded_36 : decode cX10_isGuarded 36 = .ok (.iaload, 1) := by decide +kernel
theorem dX10_isGuarded_37 : decode cX10_isGuarded 37 = .ok (.if_icmp .gt 5, 3) := by decide +kernel
theorem dX10_isGuarded_40 : decode cX10_isGuarded 40 = .ok (.iconst 1, 1) := by decide +kernel
theorem dX10_isGuarded_41 : decode cX10_isGuarded 41 = .ok (.ireturn, 1) := by decide +kernel
theorem dX10_leftOf_0 : decode cX10_leftOf 0 = .ok (.aload_n 0, 1) := by decide +kernel
theorem dX10_leftOf_1 : decode cX10_leftOf 1 = .ok (.iload_n 1, 1) := by decide +kernel
theorem dX10_leftOf_2 : decode cX10_leftOf 2 = .ok (.invokevirtual 46, 3) := by decide +kernel
theorem dX10_openOn_0 : decode cX10_openOn 0 = .ok (.iconst 0, 1) := by decide +kernel
theorem dX10_openOn_1 : decode cX10_openOn 1 = .ok (.istore_n 2, 1) := by decide +kernel
theorem dX10_openOn_2 : decode cX10_openOn 2 = .ok (.iload_n 2, 1) := by decide +kernel
theorem dX10_openOn_3 : decode cX10_openOn 3 = .ok (.aload_n 0, 1) := by decide +kernel
theorem dX10_openOn_4 : decode cX10_openOn 4 = .ok (.getfield 39, 3) := by decide +kernel
theorem dX10_openOn_7 : decode cX10_openOn 7 = .ok (.if_icmp .ge 31, 3) := by decide +kernel
theorem dX10_openOn_38 : decode cX10_openOn 38 = .ok (.iconst (-1), 1) := by decide +kernel
theorem dX10_openOn_39 : decode cX10_openOn 39 = .ok (.ireturn, 1) := by decide +kernel
theorem dX10_openOn_10 : decode cX10_openOn 10 = .ok (.aload_n 0, 1) := by decide +kernel
theorem dX10_openOn_11 : decode cX10_openOn 11 = .ok (.getfield 27, 3) := by decide +kernel
theorem dX10_openOn_14 : decode cX10_openOn 14 = .ok (.iload_n 2, 1) := by decide +kernel
theorem dX10_openOn_15 : decode cX10_openOn 15 = .ok (.iaload, 1) := by decide +kernel
theorem dX10_openOn_16 : decode cX10_openOn 16 = .ok (.iconst 1, 1) := by decide +kernel
theorem dX10_openOn_17 : decode cX10_openOn 17 = .ok (.if_icmp .ne 15, 3) := by decide +kernel
theorem dX10_openOn_32 : decode cX10_openOn 32 = .ok (.iinc 2 1, 3) := by decide +kernel
theorem dX10_openOn_35 : decode cX10_openOn 35 = .ok (.goto (-33), 3) := by decide +kernel
theorem dX10_openOn_20 : decode cX10_openOn 20 = .ok (.aload_n 0, 1) := by decide +kernel
theorem dX10_openOn_21 : decode cX10_openOn 21 = .ok (.getfield 9, 3) := by decide +kernel
theorem dX10_openOn_24 : decode cX10_openOn 24 = .ok (.iload_n 2, 1) := by decide +kernel
theorem dX10_openOn_25 : decode cX10_openOn 25 = .ok (.iaload, 1) := by decide +kernel
theorem dX10_openOn_26 : decode cX10_openOn 26 = .ok (.iload_n 1, 1) := by decide +kernel
theorem dX10_openOn_27 : decode cX10_openOn 27 = .ok (.if_icmp .ne 5, 3) := by decide +kernel
theorem dX10_openOn_30 : decode cX10_openOn 30 = .ok (.iload_n 2, 1) := by decide +kernel
theorem dX10_openOn_31 : decode cX10_openOn 31 = .ok (.ireturn, 1) := by decide +kernel
theorem dX10_leftOf_5 : decode cX10_leftOf 5 = .ok (.istore_n 2, 1) := by decide +kernel
theorem dX10_leftOf_6 : decode cX10_leftOf 6 = .ok (.iload_n 2, 1) := by decide +kernel
theorem dX10_leftOf_7 : decode cX10_leftOf 7 = .ok (.iconst (-1), 1) := by decide +kernel
theorem dX10_leftOf_8 : decode cX10_leftOf 8 = .ok (.if_icmp .ne 7, 3) := by decide +kernel
theorem dX10_leftOf_21 : decode cX10_leftOf 21 = .ok (.ireturn, 1) := by decide +kernel
theorem dX10_leftOf_15 : decode cX10_leftOf 15 = .ok (.aload_n 0, 1) := by decide +kernel
theorem dX10_leftOf_16 : decode cX10_leftOf 16 = .ok (.getfield 21, 3) := by decide +kernel
theorem dX10_leftOf_19 : decode cX10_leftOf 19 = .ok (.iload_n 2, 1) := by decide +kernel
theorem dX10_leftOf_20 : decode cX10_leftOf 20 = .ok (.iaload, 1) := by decide +kernel
theorem dX10_leftOf_11 : decode cX10_leftOf 11 = .ok (.iconst (-1), 1) := by decide +kernel
theorem dX10_leftOf_12 : decode cX10_leftOf 12 = .ok (.goto 9, 3) := by decide +kernel
theorem dX10_stepOf_0 : decode cX10_stepOf 0 = .ok (.aload_n 0, 1) := by decide +kernel
theorem dX10_stepOf_1 : decode cX10_stepOf 1 = .ok (.iload_n 1, 1) := by decide +kernel
theorem dX10_stepOf_2 : decode cX10_stepOf 2 = .ok (.invokevirtual 46, 3) := by decide +kernel
theorem dX10_stepOf_5 : decode cX10_stepOf 5 = .ok (.istore_n 2, 1) := by decide +kernel
theorem dX10_stepOf_6 : decode cX10_stepOf 6 = .ok (.iload_n 2, 1) := by decide +kernel
theorem dX10_stepOf_7 : decode cX10_stepOf 7 = .ok (.iconst (-1), 1) := by decide +kernel
theorem dX10_stepOf_8 : decode cX10_stepOf 8 = .ok (.if_icmp .ne 7, 3) := by decide +kernel
theorem dX10_stepOf_21 : decode cX10_stepOf 21 = .ok (.ireturn, 1) := by decide +kernel
theorem dX10_stepOf_15 : decode cX10_stepOf 15 = .ok (.aload_n 0, 1) := by decide +kernel
theorem dX10_stepOf_16 : decode cX10_stepOf 16 = .ok (.getfield 18, 3) := by decide +kernel
theorem dX10_stepOf_19 : decode cX10_stepOf 19 = .ok (.iload_n 2, 1) := by decide +kernel
theorem dX10_stepOf_20 : decode cX10_stepOf 20 = .ok (.iaload, 1) := by decide +kernel
theorem dX10_stepOf_11 : decode cX10_stepOf 11 = .ok (.iconst (-1), 1) := by decide +kernel
theorem dX10_stepOf_12 : decode cX10_stepOf 12 = .ok (.goto 9, 3) := by decide +kernel
theorem dX7_copyFrom_0 : decode cX7_copyFrom 0 = .ok (.aload_n 1, 1) := by decide +kernel
theorem dX7_copyFrom_1 : decode cX7_copyFrom 1 = .ok (.getfield 9, 3) := by decide +kernel
theorem dX7_copyFrom_4 : decode cX7_copyFrom 4 = .ok (.iconst 0, 1) := by decide +kernel
theorem dX7_copyFrom_5 : decode cX7_copyFrom 5 = .ok (.aload_n 0, 1) := by decide +kernel
theorem dX7_copyFrom_6 : decode cX7_copyFrom 6 = .ok (.getfield 9, 3) := by decide +kernel
theorem dX7_copyFrom_9 : decode cX7_copyFrom 9 = .ok (.iconst 0, 1) := by decide +kernel
theorem dX7_copyFrom_10 : decode cX7_copyFrom 10 = .ok (.sipush 400, 3) := by decide +kernel
theorem dX7_copyFrom_13 : decode cX7_copyFrom 13 = .ok (.invokestatic 40, 3) := by decide +kernel
theorem dX7_copyFrom_16 : decode cX7_copyFrom 16 = .ok (.iconst 0, 1) := by decide +kernel
theorem dX7_copyFrom_17 : decode cX7_copyFrom 17 = .ok (.istore_n 2, 1) := by decide +kernel
theorem dX7_copyFrom_18 : decode cX7_copyFrom 18 = .ok (.iload_n 2, 1) := by decide +kernel
theorem dX7_copyFrom_19 : decode cX7_copyFrom 19 = .ok (.sipush 400, 3) := by decide +kernel
theorem dX7_copyFrom_22 : decode cX7_copyFrom 22 = .ok (.if_icmp .ge 21, 3) := by decide +kernel
theorem dX7_copyFrom_43 : decode cX7_copyFrom 43 = .ok (.return_, 1) := by decide +kernel
theorem dX7_copyFrom_25 : decode cX7_copyFrom 25 = .ok (.aload_n 0, 1) := by decide +kernel
theorem dX7_copyFrom_26 : decode cX7_copyFrom 26 = .ok (.getfield 17, 3) := by decide +kernel
theorem dX7_copyFrom_29 : decode cX7_copyFrom 29 = .ok (.iload_n 2, 1) := by decide +kernel
theorem dX7_copyFrom_30 : decode cX7_copyFrom 30 = .ok (.aload_n 1, 1) := by decide +kernel
theorem dX7_copyFrom_31 : decode cX7_copyFrom 31 = .ok (.getfield 17, 3) := by decide +kernel
theorem dX7_copyFrom_34 : decode cX7_copyFrom 34 = .ok (.iload_n 2, 1) := by decide +kernel
theorem dX7_copyFrom_35 : decode cX7_copyFrom 35 = .ok (.aaload, 1) := by decide +kernel
theorem dX7_copyFrom_36 : decode cX7_copyFrom 36 = .ok (.aastore, 1) := by decide +kernel
theorem dX7_copyFrom_37 : decode cX7_copyFrom 37 = .ok (.iinc 2 1, 3) := by decide +kernel
theorem dX7_copyFrom_40 : decode cX7_copyFrom 40 = .ok (.goto (-22), 3) := by decide +kernel
theorem dX7_priceIn_0 : decode cX7_priceIn 0 = .ok (.iload_n 1, 1) := by decide +kernel
theorem dX7_priceIn_1 : decode cX7_priceIn 1 = .ok (.sipush 399, 3) := by decide +kernel
theorem dX7_priceIn_4 : decode cX7_priceIn 4 = .ok (.invokestatic 27, 3) := by decide +kernel
theorem dX7_priceIn_7 : decode cX7_priceIn 7 = .ok (.istore_n 2, 1) := by decide +kernel
theorem dX7_priceIn_8 : decode cX7_priceIn 8 = .ok (.iload_n 2, 1) := by decide +kernel
theorem dX7_priceIn_9 : decode cX7_priceIn 9 = .ok (.ifCond .lt 26, 3) := by decide +kernel
theorem dX7_priceIn_35 : decode cX7_priceIn 35 = .ok (.bipush 100, 2) := by decide +kernel
theorem dX7_priceIn_37 : decode cX7_priceIn 37 = .ok (.ireturn, 1) := by decide +kernel
theorem dX7_priceIn_12 : decode cX7_priceIn 12 = .ok (.aload_n 0, 1) := by decide +kernel
theorem dX7_priceIn_13 : decode cX7_priceIn 13 = .ok (.getfield 9, 3) := by decide +kernel
theorem dX7_priceIn_16 : decode cX7_priceIn 16 = .ok (.iload_n 2, 1) := by decide +kernel
theorem dX7_priceIn_17 : decode cX7_priceIn 17 = .ok (.iaload, 1) := by decide +kernel
theorem dX7_priceIn_18 : decode cX7_priceIn 18 = .ok (.iconst (-1), 1) := by decide +kernel
theorem dX7_priceIn_19 : decode cX7_priceIn 19 = .ok (.if_icmp .eq 10, 3) := by decide +kernel
theorem dX7_priceIn_29 : decode cX7_priceIn 29 = .ok (.iinc 2 (-1), 3) := by decide +kernel
theorem dX7_priceIn_32 : decode cX7_priceIn 32 = .ok (.goto (-24), 3) := by decide +kernel
theorem dX7_priceIn_22 : decode cX7_priceIn 22 = .ok (.aload_n 0, 1) := by decide +kernel
theorem dX7_priceIn_23 : decode cX7_priceIn 23 = .ok (.getfield 9, 3) := by decide +kernel
theorem dX7_priceIn_26 : decode cX7_priceIn 26 = .ok (.iload_n 2, 1) := by decide +kernel
theorem dX7_priceIn_27 : decode cX7_priceIn 27 = .ok (.iaload, 1) := by decide +kernel
theorem dX7_priceIn_28 : decode cX7_priceIn 28 = .ok (.ireturn, 1) := by decide +kernel
theorem dX7_sacksOf_0 : decode cX7_sacksOf 0 = .ok (.aload_n 0, 1) := by decide +kernel
theorem dX7_sacksOf_1 : decode cX7_sacksOf 1 = .ok (.getfield 17, 3) := by decide +kernel
theorem dX7_sacksOf_4 : decode cX7_sacksOf 4 = .ok (.iload_n 2, 1) := by decide +kernel
theorem dX7_sacksOf_5 : decode cX7_sacksOf 5 = .ok (.aaload, 1) := by decide +kernel
theorem dX7_sacksOf_6 : decode cX7_sacksOf 6 = .ok (.astore_n 3, 1) := by decide +kernel
theorem dX7_sacksOf_7 : decode cX7_sacksOf 7 = .ok (.aload_n 3, 1) := by decide +kernel
theorem dX7_sacksOf_8 : decode cX7_sacksOf 8 = .ok (.ifnull 25, 3) := by decide +kernel
theorem dX7_sacksOf_33 : decode cX7_sacksOf 33 = .ok (.iconst (-1), 1) := by decide +kernel
theorem dX7_sacksOf_34 : decode cX7_sacksOf 34 = .ok (.ireturn, 1) := by decide +kernel
theorem dX7_sacksOf_11 : decode cX7_sacksOf 11 = .ok (.iload_n 1, 1) := by decide +kernel
theorem dX7_sacksOf_12 : decode cX7_sacksOf 12 = .ok (.aload_n 3, 1) := by decide +kernel
theorem dX7_sacksOf_13 : decode cX7_sacksOf 13 = .ok (.getfield 33, 3) := by decide +kernel
theorem dX7_sacksOf_16 : decode cX7_sacksOf 16 = .ok (.if_icmp .lt 17, 3) := by decide +kernel
theorem dX7_sacksOf_19 : decode cX7_sacksOf 19 = .ok (.iload_n 1, 1) := by decide +kernel
theorem dX7_sacksOf_20 : decode cX7_sacksOf 20 = .ok (.aload_n 3, 1) := by decide +kernel
theorem dX7_sacksOf_21 : decode cX7_sacksOf 21 = .ok (.getfield 33, 3) := by decide +kernel
theorem dX7_sacksOf_24 : decode cX7_sacksOf 24 = .ok (.isub, 1) := by decide +kernel
theorem dX7_sacksOf_25 : decode cX7_sacksOf 25 = .ok (.aload_n 3, 1) := by decide +kernel
theorem dX7_sacksOf_26 : decode cX7_sacksOf 26 = .ok (.getfield 37, 3) := by decide +kernel
theorem dX7_sacksOf_29 : decode cX7_sacksOf 29 = .ok (.arraylength, 1) := by decide +kernel
theorem dX7_sacksOf_30 : decode cX7_sacksOf 30 = .ok (.if_icmp .lt 5, 3) := by decide +kernel
theorem dX7_sacksOf_35 : decode cX7_sacksOf 35 = .ok (.aload_n 3, 1) := by decide +kernel
theorem dX7_sacksOf_36 : decode cX7_sacksOf 36 = .ok (.getfield 37, 3) := by decide +kernel
theorem dX7_sacksOf_39 : decode cX7_sacksOf 39 = .ok (.iload_n 1, 1) := by decide +kernel
theorem dX7_sacksOf_40 : decode cX7_sacksOf 40 = .ok (.aload_n 3, 1) := by decide +kernel
theorem dX7_sacksOf_41 : decode cX7_sacksOf 41 = .ok (.getfield 33, 3) := by decide +kernel
theorem dX7_sacksOf_44 : decode cX7_sacksOf 44 = .ok (.isub, 1) := by decide +kernel
theorem dX7_sacksOf_45 : decode cX7_sacksOf 45 = .ok (.iaload, 1) := by decide +kernel
theorem dX7_sacksOf_46 : decode cX7_sacksOf 46 = .ok (.ireturn, 1) := by decide +kernel
theorem dX3_addOffer_0 : decode cX3_addOffer 0 = .ok (.aload_n 0, 1) := by decide +kernel
theorem dX3_addOffer_1 : decode cX3_addOffer 1 = .ok (.getfield 22, 3) := by decide +kernel
theorem dX3_addOffer_4 : decode cX3_addOffer 4 = .ok (.bipush 9, 2) := by decide +kernel
theorem dX3_addOffer_6 : decode cX3_addOffer 6 = .ok (.if_icmp .lt 5, 3) := by decide +kernel
theorem dX3_addOffer_11 : decode cX3_addOffer 11 = .ok (.aload_n 0, 1) := by decide +kernel
theorem dX3_addOffer_12 : decode cX3_addOffer 12 = .ok (.getfield 15, 3) := by decide +kernel
theorem dX3_addOffer_15 : decode cX3_addOffer 15 = .ok (.aload_n 0, 1) := by decide +kernel
theorem dX3_addOffer_16 : decode cX3_addOffer 16 = .ok (.getfield 22, 3) := by decide +kernel
theorem dX3_addOffer_19 : decode cX3_addOffer 19 = .ok (.iload_n 1, 1) := by decide +kernel
theorem dX3_addOffer_20 : decode cX3_addOffer 20 = .ok (.iastore, 1) := by decide +kernel
theorem dX3_addOffer_21 : decode cX3_addOffer 21 = .ok (.aload_n 0, 1) := by decide +kernel
theorem dX3_addOffer_22 : decode cX3_addOffer 22 = .ok (.getfield 19, 3) := by decide +kernel
theorem dX3_addOffer_25 : decode cX3_addOffer 25 = .ok (.aload_n 0, 1) := by decide +kernel
theorem dX3_addOffer_26 : decode cX3_addOffer 26 = .ok (.getfield 22, 3) := by decide +kernel
theorem dX3_addOffer_29 : decode cX3_addOffer 29 = .ok (.iload_n 2, 1) := by decide +kernel
theorem dX3_addOffer_30 : decode cX3_addOffer 30 = .ok (.iastore, 1) := by decide +kernel
theorem dX3_addOffer_31 : decode cX3_addOffer 31 = .ok (.aload_n 0, 1) := by decide +kernel
theorem dX3_addOffer_32 : decode cX3_addOffer 32 = .ok (.dup, 1) := by decide +kernel
theorem dX3_addOffer_33 : decode cX3_addOffer 33 = .ok (.getfield 22, 3) := by decide +kernel
theorem dX3_addOffer_36 : decode cX3_addOffer 36 = .ok (.iconst 1, 1) := by decide +kernel
theorem dX3_addOffer_37 : decode cX3_addOffer 37 = .ok (.iadd, 1) := by decide +kernel
theorem dX3_addOffer_38 : decode cX3_addOffer 38 = .ok (.putfield 22, 3) := by decide +kernel
theorem dX3_addOffer_41 : decode cX3_addOffer 41 = .ok (.aload_n 0, 1) := by decide +kernel
theorem dX3_addOffer_42 : decode cX3_addOffer 42 = .ok (.getfield 22, 3) := by decide +kernel
theorem dX3_addOffer_45 : decode cX3_addOffer 45 = .ok (.ireturn, 1) := by decide +kernel
theorem dX3_addOffer_9 : decode cX3_addOffer 9 = .ok (.iconst (-1), 1) := by decide +kernel
theorem dX3_addOffer_10 : decode cX3_addOffer 10 = .ok (.ireturn, 1) := by decide +kernel
theorem dX3_bestSet_0 : decode cX3_bestSet 0 = .ok (.iconst (-1), 1) := by decide +kernel
theorem dX3_bestSet_1 : decode cX3_bestSet 1 = .ok (.istore_n 3, 1) := by decide +kernel
theorem dX3_bestSet_2 : decode cX3_bestSet 2 = .ok (.iconst 0, 1) := by decide +kernel
theorem dX3_bestSet_3 : decode cX3_bestSet 3 = .ok (.istore 4, 2) := by decide +kernel
theorem dX3_bestSet_5 : decode cX3_bestSet 5 = .ok (.iconst 0, 1) := by decide +kernel
theorem dX3_bestSet_6 : decode cX3_bestSet 6 = .ok (.istore 5, 2) := by decide +kernel
theorem dX3_bestSet_8 : decode cX3_bestSet 8 = .ok (.iload 5, 2) := by decide +kernel
theorem dX3_bestSet_10 : decode cX3_bestSet 10 = .ok (.iconst 1, 1) := by decide +kernel
theorem dX3_bestSet_11 : decode cX3_bestSet 11 = .ok (.aload_n 0, 1) := by decide +kernel
theorem dX3_bestSet_12 : decode cX3_bestSet 12 = .ok (.getfield 22, 3) := by decide +kernel
theorem dX3_bestSet_15 : decode cX3_bestSet 15 = .ok (.ishl, 1) := by decide +kernel
theorem dX3_bestSet_16 : decode cX3_bestSet 16 = .ok (.if_icmp .ge 99, 3) := by decide +kernel
theorem dX3_bestSet_115 : decode cX3_bestSet 115 = .ok (.iload_n 3, 1) := by decide +kernel
theorem dX3_bestSet_116 : decode cX3_bestSet 116 = .ok (.ireturn, 1) := by decide +kernel
theorem dX3_bestSet_19 : decode cX3_bestSet 19 = .ok (.aload_n 0, 1) := by decide +kernel
theorem dX3_bestSet_20 : decode cX3_bestSet 20 = .ok (.iload 5, 2) := by decide +kernel
theorem dX3_bestSet_22 : decode cX3_bestSet 22 = .ok (.aload_n 0, 1) := by decide +kernel
theorem dX3_bestSet_23 : decode cX3_bestSet 23 = .ok (.getfield 15, 3) := by decide +kernel
theorem dX3_bestSet_26 : decode cX3_bestSet 26 = .ok (.invokevirtual 25, 3) := by decide +kernel
theorem dX3_sumOf_0 : decode cX3_sumOf 0 = .ok (.iconst 0, 1) := by decide +kernel
theorem dX3_sumOf_1 : decode cX3_sumOf 1 = .ok (.istore_n 3, 1) := by decide +kernel
theorem dX3_sumOf_2 : decode cX3_sumOf 2 = .ok (.iconst 0, 1) := by decide +kernel
theorem dX3_sumOf_3 : decode cX3_sumOf 3 = .ok (.istore 4, 2) := by decide +kernel
theorem dX3_sumOf_5 : decode cX3_sumOf 5 = .ok (.iload 4, 2) := by decide +kernel
theorem dX3_sumOf_7 : decode cX3_sumOf 7 = .ok (.aload_n 0, 1) := by decide +kernel
theorem dX3_sumOf_8 : decode cX3_sumOf 8 = .ok (.getfield 22, 3) := by decide +kernel
theorem dX3_sumOf_11 : decode cX3_sumOf 11 = .ok (.if_icmp .ge 37, 3) := by decide +kernel
theorem dX3_sumOf_48 : decode cX3_sumOf 48 = .ok (.iload_n 3, 1) := by decide +kernel
theorem dX3_sumOf_49 : decode cX3_sumOf 49 = .ok (.ireturn, 1) := by decide +kernel
theorem dX3_sumOf_14 : decode cX3_sumOf 14 = .ok (.iload 4, 2) := by decide +kernel
theorem dX3_sumOf_16 : decode cX3_sumOf 16 = .ok (.aload_n 2, 1) := by decide +kernel
theorem dX3_sumOf_17 : decode cX3_sumOf 17 = .ok (.arraylength, 1) := by decide +kernel
theorem dX3_sumOf_18 : decode cX3_sumOf 18 = .ok (.if_icmp .ge 30, 3) := by decide +kernel
theorem dX3_sumOf_21 : decode cX3_sumOf 21 = .ok (.iload_n 3, 1) := by decide +kernel
theorem dX3_sumOf_22 : decode cX3_sumOf 22 = .ok (.iload_n 1, 1) := by decide +kernel
theorem dX3_sumOf_23 : decode cX3_sumOf 23 = .ok (.iload 4, 2) := by decide +kernel
theorem dX3_sumOf_25 : decode cX3_sumOf 25 = .ok (.ishr, 1) := by decide +kernel
theorem dX3_sumOf_26 : decode cX3_sumOf 26 = .ok (.iconst 1, 1) := by decide +kernel
theorem dX3_sumOf_27 : decode cX3_sumOf 27 = .ok (.iand, 1) := by decide +kernel
theorem dX3_sumOf_28 : decode cX3_sumOf 28 = .ok (.iconst 1, 1) := by decide +kernel
theorem dX3_sumOf_29 : decode cX3_sumOf 29 = .ok (.if_icmp .ne 10, 3) := by decide +kernel
theorem dX3_sumOf_40 : decode cX3_sumOf 40 = .ok (.iadd, 1) := by decide +kernel
theorem dX3_sumOf_41 : decode cX3_sumOf 41 = .ok (.istore_n 3, 1) := by decide +kernel
theorem dX3_sumOf_42 : decode cX3_sumOf 42 = .ok (.iinc 4 1, 3) := by decide +kernel
theorem dX3_sumOf_45 : decode cX3_sumOf 45 = .ok (.goto (-40), 3) := by decide +kernel
theorem dX3_sumOf_39 : decode cX3_sumOf 39 = .ok (.iconst 0, 1) := by decide +kernel
theorem dX3_sumOf_32 : decode cX3_sumOf 32 = .ok (.aload_n 2, 1) := by decide +kernel
theorem dX3_sumOf_33 : decode cX3_sumOf 33 = .ok (.iload 4, 2) := by decide +kernel
theorem dX3_sumOf_35 : decode cX3_sumOf 35 = .ok (.iaload, 1) := by decide +kernel
theorem dX3_sumOf_36 : decode cX3_sumOf 36 = .ok (.goto 4, 3) := by decide +kernel
theorem dX3_bestSet_29 : decode cX3_bestSet 29 = .ok (.istore 6, 2) := by decide +kernel
theorem dX3_bestSet_31 : decode cX3_bestSet 31 = .ok (.aload_n 0, 1) := by decide +kernel
theorem dX3_bestSet_32 : decode cX3_bestSet 32 = .ok (.iload 5, 2) := by decide +kernel
theorem dX3_bestSet_34 : decode cX3_bestSet 34 = .ok (.aload_n 0, 1) := by decide +kernel
theorem dX3_bestSet_35 : decode cX3_bestSet 35 = .ok (.getfield 19, 3) := by decide +kernel
theorem dX3_bestSet_38 : decode cX3_bestSet 38 = .ok (.invokevirtual 25, 3) := by decide +kernel
theorem dX3_bestSet_41 : decode cX3_bestSet 41 = .ok (.istore 7, 2) := by decide +kernel
theorem dX3_bestSet_43 : decode cX3_bestSet 43 = .ok (.iload 6, 2) := by decide +kernel
theorem dX3_bestSet_45 : decode cX3_bestSet 45 = .ok (.iload_n 1, 1) := by decide +kernel
theorem dX3_bestSet_46 : decode cX3_bestSet 46 = .ok (.if_icmp .lt 63, 3) := by decide +kernel
theorem dX3_bestSet_109 : decode cX3_bestSet 109 = .ok (.iinc 5 1, 3) := by decide +kernel
theorem dX3_bestSet_112 : decode cX3_bestSet 112 = .ok (.goto (-104), 3) := by decide +kernel
theorem dX3_bestSet_49 : decode cX3_bestSet 49 = .ok (.iload 7, 2) := by decide +kernel
theorem dX3_bestSet_51 : decode cX3_bestSet 51 = .ok (.iload_n 2, 1) := by decide +kernel
theorem dX3_bestSet_52 : decode cX3_bestSet 52 = .ok (.if_icmp .ge 6, 3) := by decide +kernel
theorem dX3_bestSet_58 : decode cX3_bestSet 58 = .ok (.iload_n 3, 1) := by decide +kernel
theorem dX3_bestSet_59 : decode cX3_bestSet 59 = .ok (.iconst (-1), 1) := by decide +kernel
theorem dX3_bestSet_60 : decode cX3_bestSet 60 = .ok (.if_icmp .ne 7, 3) := by decide +kernel
theorem dX3_bestSet_77 : decode cX3_bestSet 77 = .ok (.istore 8, 2) := by decide +kernel
theorem dX3_bestSet_79 : decode cX3_bestSet 79 = .ok (.iload 8, 2) := by decide +kernel
theorem dX3_bestSet_81 : decode cX3_bestSet 81 = .ok (.ifCond .gt 18, 3) := by decide +kernel
theorem dX3_bestSet_99 : decode cX3_bestSet 99 = .ok (.iload 5, 2) := by decide +kernel
theorem dX3_bestSet_101 : decode cX3_bestSet 101 = .ok (.istore_n 3, 1) := by decide +kernel
theorem dX3_bestSet_102 : decode cX3_bestSet 102 = .ok (.iload 6, 2) := by decide +kernel
theorem dX3_bestSet_104 : decode cX3_bestSet 104 = .ok (.iload 7, 2) := by decide +kernel
theorem dX3_bestSet_106 : decode cX3_bestSet 106 = .ok (.iadd, 1) := by decide +kernel
theorem dX3_bestSet_107 : decode cX3_bestSet 107 = .ok (.istore 4, 2) := by decide +kernel
theorem dX3_bestSet_84 : decode cX3_bestSet 84 = .ok (.iload 8, 2) := by decide +kernel
theorem dX3_bestSet_86 : decode cX3_bestSet 86 = .ok (.ifCond .ne 23, 3) := by decide +kernel
theorem dX3_bestSet_89 : decode cX3_bestSet 89 = .ok (.iload 6, 2) := by decide +kernel
theorem dX3_bestSet_91 : decode cX3_bestSet 91 = .ok (.iload 7, 2) := by decide +kernel
theorem dX3_bestSet_93 : decode cX3_bestSet 93 = .ok (.iadd, 1) := by decide +kernel
theorem dX3_bestSet_94 : decode cX3_bestSet 94 = .ok (.iload 4, 2) := by decide +kernel
theorem dX3_bestSet_96 : decode cX3_bestSet 96 = .ok (.if_icmp .le 13, 3) := by decide +kernel
theorem dX3_bestSet_67 : decode cX3_bestSet 67 = .ok (.iload_n 3, 1) := by decide +kernel
theorem dX3_bestSet_68 : decode cX3_bestSet 68 = .ok (.invokestatic 29, 3) := by decide +kernel
theorem dX3_bestSet_71 : decode cX3_bestSet 71 = .ok (.iload 5, 2) := by decide +kernel
theorem dX3_bestSet_73 : decode cX3_bestSet 73 = .ok (.invokestatic 29, 3) := by decide +kernel
theorem dX3_bestSet_76 : decode cX3_bestSet 76 = .ok (.isub, 1) := by decide +kernel
theorem dX3_bestSet_63 : decode cX3_bestSet 63 = .ok (.iconst 1, 1) := by decide +kernel
theorem dX3_bestSet_64 : decode cX3_bestSet 64 = .ok (.goto 13, 3) := by decide +kernel
theorem dX3_bestSet_55 : decode cX3_bestSet 55 = .ok (.goto 54, 3) := by decide +kernel
theorem dX3_copyFrom_0 : decode cX3_copyFrom 0 = .ok (.aload_n 0, 1) := by decide +kernel
theorem dX3_copyFrom_1 : decode cX3_copyFrom 1 = .ok (.aload_n 1, 1) := by decide +kernel
theorem dX3_copyFrom_2 : decode cX3_copyFrom 2 = .ok (.getfield 35, 3) := by decide +kernel
theorem dX3_copyFrom_5 : decode cX3_copyFrom 5 = .ok (.putfield 35, 3) := by decide +kernel
theorem dX3_copyFrom_8 : decode cX3_copyFrom 8 = .ok (.aload_n 0, 1) := by decide +kernel
theorem dX3_copyFrom_9 : decode cX3_copyFrom 9 = .ok (.aload_n 1, 1) := by decide +kernel
theorem dX3_copyFrom_10 : decode cX3_copyFrom 10 = .ok (.getfield 9, 3) := by decide +kernel
theorem dX3_copyFrom_13 : decode cX3_copyFrom 13 = .ok (.putfield 9, 3) := by decide +kernel
theorem dX3_copyFrom_16 : decode cX3_copyFrom 16 = .ok (.aload_n 0, 1) := by decide +kernel
theorem dX3_copyFrom_17 : decode cX3_copyFrom 17 = .ok (.aload_n 1, 1) := by decide +kernel
theorem dX3_copyFrom_18 : decode cX3_copyFrom 18 = .ok (.getfield 38, 3) := by decide +kernel
theorem dX3_copyFrom_21 : decode cX3_copyFrom 21 = .ok (.putfield 38, 3) := by decide +kernel
theorem dX3_copyFrom_24 : decode cX3_copyFrom 24 = .ok (.aload_n 0, 1) := by decide +kernel
theorem dX3_copyFrom_25 : decode cX3_copyFrom 25 = .ok (.aload_n 1, 1) := by decide +kernel
theorem dX3_copyFrom_26 : decode cX3_copyFrom 26 = .ok (.getfield 22, 3) := by decide +kernel
theorem dX3_copyFrom_29 : decode cX3_copyFrom 29 = .ok (.putfield 22, 3) := by decide +kernel
theorem dX3_copyFrom_32 : decode cX3_copyFrom 32 = .ok (.aload_n 1, 1) := by decide +kernel
theorem dX3_copyFrom_33 : decode cX3_copyFrom 33 = .ok (.getfield 15, 3) := by decide +kernel
theorem dX3_copyFrom_36 : decode cX3_copyFrom 36 = .ok (.iconst 0, 1) := by decide +kernel
theorem dX3_copyFrom_37 : decode cX3_copyFrom 37 = .ok (.aload_n 0, 1) := by decide +kernel
theorem dX3_copyFrom_38 : decode cX3_copyFrom 38 = .ok (.getfield 15, 3) := by decide +kernel
theorem dX3_copyFrom_41 : decode cX3_copyFrom 41 = .ok (.iconst 0, 1) := by decide +kernel
theorem dX3_copyFrom_42 : decode cX3_copyFrom 42 = .ok (.bipush 9, 2) := by decide +kernel
theorem dX3_copyFrom_44 : decode cX3_copyFrom 44 = .ok (.invokestatic 41, 3) := by decide +kernel
theorem dX3_copyFrom_47 : decode cX3_copyFrom 47 = .ok (.aload_n 1, 1) := by decide +kernel
theorem dX3_copyFrom_48 : decode cX3_copyFrom 48 = .ok (.getfield 19, 3) := by decide +kernel
theorem dX3_copyFrom_51 : decode cX3_copyFrom 51 = .ok (.iconst 0, 1) := by decide +kernel
theorem dX3_copyFrom_52 : decode cX3_copyFrom 52 = .ok (.aload_n 0, 1) := by decide +kernel
theorem dX3_copyFrom_53 : decode cX3_copyFrom 53 = .ok (.getfield 19, 3) := by decide +kernel
theorem dX3_copyFrom_56 : decode cX3_copyFrom 56 = .ok (.iconst 0, 1) := by decide +kernel
theorem dX3_copyFrom_57 : decode cX3_copyFrom 57 = .ok (.bipush 9, 2) := by decide +kernel
theorem dX3_copyFrom_59 : decode cX3_copyFrom 59 = .ok (.invokestatic 41, 3) := by decide +kernel
theorem dX3_copyFrom_62 : decode cX3_copyFrom 62 = .ok (.return_, 1) := by decide +kernel
theorem dX2_add_0 : decode cX2_add 0 = .ok (.aload_n 0, 1) := by decide +kernel
theorem dX2_add_1 : decode cX2_add 1 = .ok (.getfield 24, 3) := by decide +kernel
theorem dX2_add_4 : decode cX2_add 4 = .ok (.bipush 20, 2) := by decide +kernel
theorem dX2_add_6 : decode cX2_add 6 = .ok (.if_icmp .lt 5, 3) := by decide +kernel
theorem dX2_add_11 : decode cX2_add 11 = .ok (.aload_n 0, 1) := by decide +kernel
theorem dX2_add_12 : decode cX2_add 12 = .ok (.getfield 11, 3) := by decide +kernel
theorem dX2_add_15 : decode cX2_add 15 = .ok (.aload_n 0, 1) := by decide +kernel
theorem dX2_add_16 : decode cX2_add 16 = .ok (.getfield 24, 3) := by decide +kernel
theorem dX2_add_19 : decode cX2_add 19 = .ok (.aload_n 1, 1) := by decide +kernel
theorem dX2_add_20 : decode cX2_add 20 = .ok (.aastore, 1) := by decide +kernel
theorem dX2_add_21 : decode cX2_add 21 = .ok (.aload_n 0, 1) := by decide +kernel
theorem dX2_add_22 : decode cX2_add 22 = .ok (.dup, 1) := by decide +kernel
theorem dX2_add_23 : decode cX2_add 23 = .ok (.getfield 24, 3) := by decide +kernel
theorem dX2_add_26 : decode cX2_add 26 = .ok (.iconst 1, 1) := by decide +kernel
theorem dX2_add_27 : decode cX2_add 27 = .ok (.iadd, 1) := by decide +kernel
theorem dX2_add_28 : decode cX2_add 28 = .ok (.putfield 24, 3) := by decide +kernel
theorem dX2_add_31 : decode cX2_add 31 = .ok (.aload_n 0, 1) := by decide +kernel
theorem dX2_add_32 : decode cX2_add 32 = .ok (.getfield 24, 3) := by decide +kernel
theorem dX2_add_35 : decode cX2_add 35 = .ok (.iconst 1, 1) := by decide +kernel
theorem dX2_add_36 : decode cX2_add 36 = .ok (.isub, 1) := by decide +kernel
theorem dX2_add_37 : decode cX2_add 37 = .ok (.ireturn, 1) := by decide +kernel
theorem dX2_add_9 : decode cX2_add 9 = .ok (.iconst (-1), 1) := by decide +kernel
theorem dX2_add_10 : decode cX2_add 10 = .ok (.ireturn, 1) := by decide +kernel
theorem dX2_asksBanned_0 : decode cX2_asksBanned 0 = .ok (.iconst 0, 1) := by decide +kernel
theorem dX2_asksBanned_1 : decode cX2_asksBanned 1 = .ok (.istore_n 1, 1) := by decide +kernel
theorem dX2_asksBanned_2 : decode cX2_asksBanned 2 = .ok (.iload_n 1, 1) := by decide +kernel
theorem dX2_asksBanned_3 : decode cX2_asksBanned 3 = .ok (.aload_n 0, 1) := by decide +kernel
theorem dX2_asksBanned_4 : decode cX2_asksBanned 4 = .ok (.getfield 24, 3) := by decide +kernel
theorem dX2_asksBanned_7 : decode cX2_asksBanned 7 = .ok (.if_icmp .ge 29, 3) := by decide +kernel
theorem dX2_asksBanned_36 : decode cX2_asksBanned 36 = .ok (.iconst 0, 1) := by decide +kernel
theorem dX2_asksBanned_37 : decode cX2_asksBanned 37 = .ok (.ireturn, 1) := by decide +kernel
theorem dX2_asksBanned_10 : decode cX2_asksBanned 10 = .ok (.aload_n 0, 1) := by decide +kernel
theorem dX2_asksBanned_11 : decode cX2_asksBanned 11 = .ok (.getfield 11, 3) := by decide +kernel
theorem dX2_asksBanned_14 : decode cX2_asksBanned 14 = .ok (.iload_n 1, 1) := by decide +kernel
theorem dX2_asksBanned_15 : decode cX2_asksBanned 15 = .ok (.aaload, 1) := by decide +kernel
theorem dX2_asksBanned_16 : decode cX2_asksBanned 16 = .ok (.astore_n 2, 1) := by decide +kernel
theorem dX2_asksBanned_17 : decode cX2_asksBanned 17 = .ok (.aload_n 2, 1) := by decide +kernel
theorem dX2_asksBanned_18 : decode cX2_asksBanned 18 = .ok (.ifnull 12, 3) := by decide +kernel
theorem dX2_asksBanned_30 : decode cX2_asksBanned 30 = .ok (.iinc 1 1, 3) := by decide +kernel
theorem dX2_asksBanned_33 : decode cX2_asksBanned 33 = .ok (.goto (-31), 3) := by decide +kernel
theorem dX2_asksBanned_21 : decode cX2_asksBanned 21 = .ok (.aload_n 2, 1) := by decide +kernel
theorem dX2_asksBanned_22 : decode cX2_asksBanned 22 = .ok (.getfield 53, 3) := by decide +kernel
theorem dX2_asksBanned_25 : decode cX2_asksBanned 25 = .ok (.ifCond .eq 5, 3) := by decide +kernel
theorem dX2_asksBanned_28 : decode cX2_asksBanned 28 = .ok (.iconst 1, 1) := by decide +kernel
theorem dX2_asksBanned_29 : decode cX2_asksBanned 29 = .ok (.ireturn, 1) := by decide +kernel
theorem dX2_copyFrom_0 : decode cX2_copyFrom 0 = .ok (.aload_n 0, 1) := by decide +kernel
theorem dX2_copyFrom_1 : decode cX2_copyFrom 1 = .ok (.aload_n 1, 1) := by decide +kernel
theorem dX2_copyFrom_2 : decode cX2_copyFrom 2 = .ok (.getfield 24, 3) := by decide +kernel
theorem dX2_copyFrom_5 : decode cX2_copyFrom 5 = .ok (.putfield 24, 3) := by decide +kernel
theorem dX2_copyFrom_8 : decode cX2_copyFrom 8 = .ok (.iconst 0, 1) := by decide +kernel
theorem dX2_copyFrom_9 : decode cX2_copyFrom 9 = .ok (.istore_n 2, 1) := by decide +kernel
theorem dX2_copyFrom_10 : decode cX2_copyFrom 10 = .ok (.iload_n 2, 1) := by decide +kernel
theorem dX2_copyFrom_11 : decode cX2_copyFrom 11 = .ok (.bipush 20, 2) := by decide +kernel
theorem dX2_copyFrom_13 : decode cX2_copyFrom 13 = .ok (.if_icmp .ge 21, 3) := by decide +kernel
theorem dX2_copyFrom_34 : decode cX2_copyFrom 34 = .ok (.return_, 1) := by decide +kernel
theorem dX2_copyFrom_16 : decode cX2_copyFrom 16 = .ok (.aload_n 0, 1) := by decide +kernel
theorem dX2_copyFrom_17 : decode cX2_copyFrom 17 = .ok (.getfield 11, 3) := by decide +kernel
theorem dX2_copyFrom_20 : decode cX2_copyFrom 20 = .ok (.iload_n 2, 1) := by decide +kernel
theorem dX2_copyFrom_21 : decode cX2_copyFrom 21 = .ok (.aload_n 1, 1) := by decide +kernel
theorem dX2_copyFrom_22 : decode cX2_copyFrom 22 = .ok (.getfield 11, 3) := by decide +kernel
theorem dX2_copyFrom_25 : decode cX2_copyFrom 25 = .ok (.iload_n 2, 1) := by decide +kernel
theorem dX2_copyFrom_26 : decode cX2_copyFrom 26 = .ok (.aaload, 1) := by decide +kernel
theorem dX2_copyFrom_27 : decode cX2_copyFrom 27 = .ok (.aastore, 1) := by decide +kernel
theorem dX2_copyFrom_28 : decode cX2_copyFrom 28 = .ok (.iinc 2 1, 3) := by decide +kernel
theorem dX2_copyFrom_31 : decode cX2_copyFrom 31 = .ok (.goto (-21), 3) := by decide +kernel
theorem dX2_has_0 : decode cX2_has 0 = .ok (.iload_n 1, 1) := by decide +kernel
theorem dX2_has_1 : decode cX2_has 1 = .ok (.ifCond .lt 11, 3) := by decide +kernel
theorem dX2_has_12 : decode cX2_has 12 = .ok (.iconst 0, 1) := by decide +kernel
theorem dX2_has_13 : decode cX2_has 13 = .ok (.ireturn, 1) := by decide +kernel
theorem dX2_has_4 : decode cX2_has 4 = .ok (.iload_n 1, 1) := by decide +kernel
theorem dX2_has_5 : decode cX2_has 5 = .ok (.aload_n 0, 1) := by decide +kernel
theorem dX2_has_6 : decode cX2_has 6 = .ok (.getfield 24, 3) := by decide +kernel
theorem dX2_has_9 : decode cX2_has 9 = .ok (.if_icmp .lt 5, 3) := by decide +kernel
theorem dX2_has_14 : decode cX2_has 14 = .ok (.aload_n 0, 1) := by decide +kernel
theorem dX2_has_15 : decode cX2_has 15 = .ok (.getfield 11, 3) := by decide +kernel
theorem dX2_has_18 : decode cX2_has 18 = .ok (.iload_n 1, 1) := by decide +kernel
theorem dX2_has_19 : decode cX2_has 19 = .ok (.aaload, 1) := by decide +kernel
theorem dX2_has_20 : decode cX2_has 20 = .ok (.astore_n 3, 1) := by decide +kernel
theorem dX2_has_21 : decode cX2_has 21 = .ok (.aload_n 3, 1) := by decide +kernel
theorem dX2_has_22 : decode cX2_has 22 = .ok (.ifnull 19, 3) := by decide +kernel
theorem dX2_has_41 : decode cX2_has 41 = .ok (.iconst 0, 1) := by decide +kernel
theorem dX2_has_42 : decode cX2_has 42 = .ok (.ireturn, 1) := by decide +kernel
theorem dX2_has_25 : decode cX2_has 25 = .ok (.iload_n 2, 1) := by decide +kernel
theorem dX2_has_26 : decode cX2_has 26 = .ok (.ifCond .lt 15, 3) := by decide +kernel
theorem dX2_has_29 : decode cX2_has 29 = .ok (.iload_n 2, 1) := by decide +kernel
theorem dX2_has_30 : decode cX2_has 30 = .ok (.aload_n 3, 1) := by decide +kernel
theorem dX2_has_31 : decode cX2_has 31 = .ok (.getfield 28, 3) := by decide +kernel
theorem dX2_has_34 : decode cX2_has 34 = .ok (.if_icmp .ge 7, 3) := by decide +kernel
theorem dX2_has_37 : decode cX2_has 37 = .ok (.iconst 1, 1) := by decide +kernel
theorem dX2_has_38 : decode cX2_has 38 = .ok (.goto 4, 3) := by decide +kernel
theorem dX2_isInForce_0 : decode cX2_isInForce 0 = .ok (.aload_n 0, 1) := by decide +kernel
theorem dX2_isInForce_1 : decode cX2_isInForce 1 = .ok (.getfield 17, 3) := by decide +kernel
theorem dX2_isInForce_4 : decode cX2_isInForce 4 = .ok (.iload_n 1, 1) := by decide +kernel
theorem dX2_isInForce_5 : decode cX2_isInForce 5 = .ok (.iaload, 1) := by decide +kernel
theorem dX2_isInForce_6 : decode cX2_isInForce 6 = .ok (.iload_n 2, 1) := by decide +kernel
theorem dX2_isInForce_7 : decode cX2_isInForce 7 = .ok (.ishr, 1) := by decide +kernel
theorem dX2_isInForce_8 : decode cX2_isInForce 8 = .ok (.iconst 1, 1) := by decide +kernel
theorem dX2_isInForce_9 : decode cX2_isInForce 9 = .ok (.iand, 1) := by decide +kernel
theorem dX2_isInForce_10 : decode cX2_isInForce 10 = .ok (.iconst 1, 1) := by decide +kernel
theorem dX2_isInForce_11 : decode cX2_isInForce 11 = .ok (.if_icmp .ne 7, 3) := by decide +kernel
theorem dX2_isInForce_19 : decode cX2_isInForce 19 = .ok (.ireturn, 1) := by decide +kernel
theorem dX2_isInForce_18 : decode cX2_isInForce 18 = .ok (.iconst 0, 1) := by decide +kernel
theorem dX2_isInForce_14 : decode cX2_isInForce 14 = .ok (.iconst 1, 1) := by decide +kernel
theorem dX2_isInForce_15 : decode cX2_isInForce 15 = .ok (.goto 4, 3) := by decide +kernel
theorem dX2_mark_0 : decode cX2_mark 0 = .ok (.aload_n 0, 1) := by decide +kernel
theorem dX2_mark_1 : decode cX2_mark 1 = .ok (.getfield 21, 3) := by decide +kernel
theorem dX2_mark_4 : decode cX2_mark 4 = .ok (.iconst 0, 1) := by decide +kernel
theorem dX2_mark_5 : decode cX2_mark 5 = .ok (.invokestatic 31, 3) := by decide +kernel
theorem dX2_mark_8 : decode cX2_mark 8 = .ok (.aload_n 0, 1) := by decide +kernel
theorem dX2_mark_9 : decode cX2_mark 9 = .ok (.getfield 24, 3) := by decide +kernel
theorem dX2_mark_12 : decode cX2_mark 12 = .ok (.iconst 1, 1) := by decide +kernel
theorem dX2_mark_13 : decode cX2_mark 13 = .ok (.isub, 1) := by decide +kernel
theorem dX2_mark_14 : decode cX2_mark 14 = .ok (.istore_n 2, 1) := by decide +kernel
theorem dX2_mark_15 : decode cX2_mark 15 = .ok (.iload_n 2, 1) := by decide +kernel
theorem dX2_mark_16 : decode cX2_mark 16 = .ok (.ifCond .lt 148, 3) := by decide +kernel
theorem dX2_mark_164 : decode cX2_mark 164 = .ok (.return_, 1) := by decide +kernel
theorem dX2_mark_19 : decode cX2_mark 19 = .ok (.aload_n 0, 1) := by decide +kernel
theorem dX2_mark_20 : decode cX2_mark 20 = .ok (.getfield 11, 3) := by decide +kernel
theorem dX2_mark_23 : decode cX2_mark 23 = .ok (.iload_n 2, 1) := by decide +kernel
theorem dX2_mark_24 : decode cX2_mark 24 = .ok (.aaload, 1) := by decide +kernel
theorem dX2_mark_25 : decode cX2_mark 25 = .ok (.astore_n 3, 1) := by decide +kernel
theorem dX2_mark_26 : decode cX2_mark 26 = .ok (.aload_n 3, 1) := by decide +kernel
theorem dX2_mark_27 : decode cX2_mark 27 = .ok (.ifnull 15, 3) := by decide +kernel
theorem dX2_mark_42 : decode cX2_mark 42 = .ok (.iconst 0, 1) := by decide +kernel
theorem dX2_mark_43 : decode cX2_mark 43 = .ok (.istore 4, 2) := by decide +kernel
theorem dX2_mark_45 : decode cX2_mark 45 = .ok (.aload_n 0, 1) := by decide +kernel
theorem dX2_mark_46 : decode cX2_mark 46 = .ok (.getfield 17, 3) := by decide +kernel
theorem dX2_mark_49 : decode cX2_mark 49 = .ok (.iload_n 2, 1) := by decide +kernel
theorem dX2_mark_50 : decode cX2_mark 50 = .ok (.iload 4, 2) := by decide +kernel
theorem dX2_mark_52 : decode cX2_mark 52 = .ok (.ifCond .eq 23, 3) := by decide +kernel
theorem dX2_mark_75 : decode cX2_mark 75 = .ok (.iconst 0, 1) := by decide +kernel
theorem dX2_mark_76 : decode cX2_mark 76 = .ok (.iastore, 1) := by decide +kernel
theorem dX2_mark_77 : decode cX2_mark 77 = .ok (.iconst 0, 1) := by decide +kernel
theorem dX2_mark_78 : decode cX2_mark 78 = .ok (.istore 5, 2) := by decide +kernel
theorem dX2_mark_80 : decode cX2_mark 80 = .ok (.iload 4, 2) := by decide +kernel
theorem dX2_mark_82 : decode cX2_mark 82 = .ok (.ifCond .eq 76, 3) := by decide +kernel
theorem dX2_mark_158 : decode cX2_mark 158 = .ok (.iinc 2 (-1), 3) := by decide +kernel
theorem dX2_mark_161 : decode cX2_mark 161 = .ok (.goto (-146), 3) := by decide +kernel
theorem dX2_mark_30 : decode cX2_mark 30 = .ok (.aload_n 3, 1) := by decide +kernel
theorem dX2_mark_31 : decode cX2_mark 31 = .ok (.getfield 37, 3) := by decide +kernel
theorem dX2_mark_34 : decode cX2_mark 34 = .ok (.iload_n 1, 1) := by decide +kernel
theorem dX2_mark_35 : decode cX2_mark 35 = .ok (.if_icmp .gt 7, 3) := by decide +kernel
theorem dX2_mark_85 : decode cX2_mark 85 = .ok (.iload 5, 2) := by decide +kernel
theorem dX2_mark_87 : decode cX2_mark 87 = .ok (.aload_n 3, 1) := by decide +kernel
theorem dX2_mark_88 : decode cX2_mark 88 = .ok (.getfield 28, 3) := by decide +kernel
theorem dX2_mark_91 : decode cX2_mark 91 = .ok (.if_icmp .ge 67, 3) := by decide +kernel
theorem dX2_mark_94 : decode cX2_mark 94 = .ok (.aload_n 3, 1) := by decide +kernel
theorem dX2_mark_95 : decode cX2_mark 95 = .ok (.getfield 40, 3) := by decide +kernel
theorem dX2_mark_98 : decode cX2_mark 98 = .ok (.iload 5, 2) := by decide +kernel
theorem dX2_mark_100 : decode cX2_mark 100 = .ok (.iaload, 1) := by decide +kernel
theorem dX2_mark_101 : decode cX2_mark 101 = .ok (.sipush 256, 3) := by decide +kernel
theorem dX2_mark_104 : decode cX2_mark 104 = .ok (.if_icmp .ne 48, 3) := by decide +kernel
theorem dX2_mark_152 : decode cX2_mark 152 = .ok (.iinc 5 1, 3) := by decide +kernel
theorem dX2_mark_155 : decode cX2_mark 155 = .ok (.goto (-75), 3) := by decide +kernel
theorem dX2_mark_107 : decode cX2_mark 107 = .ok (.aload_n 0, 1) := by decide +kernel
theorem dX2_mark_108 : decode cX2_mark 108 = .ok (.iload_n 2, 1) := by decide +kernel
theorem dX2_mark_109 : decode cX2_mark 109 = .ok (.iload 5, 2) := by decide +kernel
theorem dX2_mark_111 : decode cX2_mark 111 = .ok (.invokevirtual 43, 3) := by decide +kernel
theorem dX2_mark_114 : decode cX2_mark 114 = .ok (.ifCond .eq 38, 3) := by decide +kernel
theorem dX2_mark_117 : decode cX2_mark 117 = .ok (.aload_n 3, 1) := by decide +kernel
theorem dX2_mark_118 : decode cX2_mark 118 = .ok (.getfield 47, 3) := by decide +kernel
theorem dX2_mark_121 : decode cX2_mark 121 = .ok (.iload 5, 2) := by decide +kernel
theorem dX2_mark_123 : decode cX2_mark 123 = .ok (.iaload, 1) := by decide +kernel
theorem dX2_mark_124 : decode cX2_mark 124 = .ok (.iload_n 2, 1) := by decide +kernel
theorem dX2_mark_125 : decode cX2_mark 125 = .ok (.if_icmp .ge 27, 3) := by decide +kernel
theorem dX2_mark_128 : decode cX2_mark 128 = .ok (.aload_n 0, 1) := by decide +kernel
theorem dX2_mark_129 : decode cX2_mark 129 = .ok (.getfield 21, 3) := by decide +kernel
theorem dX2_mark_132 : decode cX2_mark 132 = .ok (.aload_n 3, 1) := by decide +kernel
theorem dX2_mark_133 : decode cX2_mark 133 = .ok (.getfield 47, 3) := by decide +kernel
theorem dX2_mark_136 : decode cX2_mark 136 = .ok (.iload 5, 2) := by decide +kernel
theorem dX2_mark_138 : decode cX2_mark 138 = .ok (.iaload, 1) := by decide +kernel
theorem dX2_mark_139 : decode cX2_mark 139 = .ok (.dup2, 1) := by decide +kernel
theorem dX2_mark_140 : decode cX2_mark 140 = .ok (.iaload, 1) := by decide +kernel
theorem dX2_mark_141 : decode cX2_mark 141 = .ok (.iconst 1, 1) := by decide +kernel
theorem dX2_mark_142 : decode cX2_mark 142 = .ok (.aload_n 3, 1) := by decide +kernel
theorem dX2_mark_143 : decode cX2_mark 143 = .ok (.getfield 50, 3) := by decide +kernel
theorem dX2_mark_146 : decode cX2_mark 146 = .ok (.iload 5, 2) := by decide +kernel
theorem dX2_mark_148 : decode cX2_mark 148 = .ok (.iaload, 1) := by decide +kernel
theorem dX2_mark_149 : decode cX2_mark 149 = .ok (.ishl, 1) := by decide +kernel
theorem dX2_mark_150 : decode cX2_mark 150 = .ok (.ior, 1) := by decide +kernel
theorem dX2_mark_151 : decode cX2_mark 151 = .ok (.iastore, 1) := by decide +kernel
theorem dX2_mark_55 : decode cX2_mark 55 = .ok (.iconst 1, 1) := by decide +kernel
theorem dX2_mark_56 : decode cX2_mark 56 = .ok (.aload_n 3, 1) := by decide +kernel
theorem dX2_mark_57 : decode cX2_mark 57 = .ok (.getfield 28, 3) := by decide +kernel
theorem dX2_mark_60 : decode cX2_mark 60 = .ok (.ishl, 1) := by decide +kernel
theorem dX2_mark_61 : decode cX2_mark 61 = .ok (.iconst 1, 1) := by decide +kernel
theorem dX2_mark_62 : decode cX2_mark 62 = .ok (.isub, 1) := by decide +kernel
theorem dX2_mark_63 : decode cX2_mark 63 = .ok (.aload_n 0, 1) := by decide +kernel
theorem dX2_mark_64 : decode cX2_mark 64 = .ok (.getfield 21, 3) := by decide +kernel
theorem dX2_mark_67 : decode cX2_mark 67 = .ok (.iload_n 2, 1) := by decide +kernel
theorem dX2_mark_68 : decode cX2_mark 68 = .ok (.iaload, 1) := by decide +kernel
theorem dX2_mark_69 : decode cX2_mark 69 = .ok (.iconst (-1), 1) := by decide +kernel
theorem dX2_mark_70 : decode cX2_mark 70 = .ok (.ixor, 1) := by decide +kernel
theorem dX2_mark_71 : decode cX2_mark 71 = .ok (.iand, 1) := by decide +kernel
theorem dX2_mark_72 : decode cX2_mark 72 = .ok (.goto 4, 3) := by decide +kernel
theorem dX2_mark_38 : decode cX2_mark 38 = .ok (.iconst 1, 1) := by decide +kernel
theorem dX2_mark_39 : decode cX2_mark 39 = .ok (.goto 4, 3) := by decide +kernel
theorem dX2_weeksOf_0 : decode cX2_weeksOf 0 = .ok (.iconst 4, 1) := by decide +kernel
theorem dX2_weeksOf_1 : decode cX2_weeksOf 1 = .ok (.istore_n 2, 1) := by decide +kernel
theorem dX2_weeksOf_2 : decode cX2_weeksOf 2 = .ok (.iconst 0, 1) := by decide +kernel
theorem dX2_weeksOf_3 : decode cX2_weeksOf 3 = .ok (.istore_n 3, 1) := by decide +kernel
theorem dX2_weeksOf_4 : decode cX2_weeksOf 4 = .ok (.iload_n 3, 1) := by decide +kernel
theorem dX2_weeksOf_5 : decode cX2_weeksOf 5 = .ok (.aload_n 0, 1) := by decide +kernel
theorem dX2_weeksOf_6 : decode cX2_weeksOf 6 = .ok (.getfield 24, 3) := by decide +kernel
theorem dX2_weeksOf_9 : decode cX2_weeksOf 9 = .ok (.if_icmp .ge 86, 3) := by decide +kernel
theorem dX2_weeksOf_95 : decode cX2_weeksOf 95 = .ok (.iload_n 2, 1) := by decide +kernel
theorem dX2_weeksOf_96 : decode cX2_weeksOf 96 = .ok (.ireturn, 1) := by decide +kernel
theorem dX2_weeksOf_12 : decode cX2_weeksOf 12 = .ok (.aload_n 0, 1) := by decide +kernel
theorem dX2_weeksOf_13 : decode cX2_weeksOf 13 = .ok (.getfield 11, 3) := by decide +kernel
theorem dX2_weeksOf_16 : decode cX2_weeksOf 16 = .ok (.iload_n 3, 1) := by decide +kernel
theorem dX2_weeksOf_17 : decode cX2_weeksOf 17 = .ok (.aaload, 1) := by decide +kernel
theorem dX2_weeksOf_18 : decode cX2_weeksOf 18 = .ok (.astore 4, 2) := by decide +kernel
theorem dX2_weeksOf_20 : decode cX2_weeksOf 20 = .ok (.iconst 0, 1) := by decide +kernel
theorem dX2_weeksOf_21 : decode cX2_weeksOf 21 = .ok (.istore 5, 2) := by decide +kernel
theorem dX2_weeksOf_23 : decode cX2_weeksOf 23 = .ok (.aload 4, 2) := by decide +kernel
theorem dX2_weeksOf_25 : decode cX2_weeksOf 25 = .ok (.ifnull 64, 3) := by decide +kernel
theorem dX2_weeksOf_89 : decode cX2_weeksOf 89 = .ok (.iinc 3 1, 3) := by decide +kernel
theorem dX2_weeksOf_92 : decode cX2_weeksOf 92 = .ok (.goto (-88), 3) := by decide +kernel
theorem dX2_weeksOf_28 : decode cX2_weeksOf 28 = .ok (.iload 5, 2) := by decide +kernel
theorem dX2_weeksOf_30 : decode cX2_weeksOf 30 = .ok (.aload 4, 2) := by decide +kernel
theorem dX2_weeksOf_32 : decode cX2_weeksOf 32 = .ok (.getfield 28, 3) := by decide +kernel
theorem dX2_weeksOf_35 : decode cX2_weeksOf 35 = .ok (.if_icmp .ge 54, 3) := by decide +kernel
theorem dX2_weeksOf_38 : decode cX2_weeksOf 38 = .ok (.aload 4, 2) := by decide +kernel
theorem dX2_weeksOf_40 : decode cX2_weeksOf 40 = .ok (.getfield 40, 3) := by decide +kernel
theorem dX2_weeksOf_43 : decode cX2_weeksOf 43 = .ok (.iload 5, 2) := by decide +kernel
theorem dX2_weeksOf_45 : decode cX2_weeksOf 45 = .ok (.iaload, 1) := by decide +kernel
theorem dX2_weeksOf_46 : decode cX2_weeksOf 46 = .ok (.sipush 258, 3) := by decide +kernel
theorem dX2_weeksOf_49 : decode cX2_weeksOf 49 = .ok (.if_icmp .ne 34, 3) := by decide +kernel
theorem dX2_weeksOf_83 : decode cX2_weeksOf 83 = .ok (.iinc 5 1, 3) := by decide +kernel
theorem dX2_weeksOf_86 : decode cX2_weeksOf 86 = .ok (.goto (-63), 3) := by decide +kernel
theorem dX2_weeksOf_52 : decode cX2_weeksOf 52 = .ok (.aload_n 0, 1) := by decide +kernel
theorem dX2_weeksOf_53 : decode cX2_weeksOf 53 = .ok (.iload_n 3, 1) := by decide +kernel
theorem dX2_weeksOf_54 : decode cX2_weeksOf 54 = .ok (.iload 5, 2) := by decide +kernel
theorem dX2_weeksOf_56 : decode cX2_weeksOf 56 = .ok (.invokevirtual 43, 3) := by decide +kernel
theorem dX2_weeksOf_59 : decode cX2_weeksOf 59 = .ok (.ifCond .eq 24, 3) := by decide +kernel
theorem dX2_weeksOf_62 : decode cX2_weeksOf 62 = .ok (.aload 4, 2) := by decide +kernel
theorem dX2_weeksOf_64 : decode cX2_weeksOf 64 = .ok (.getfield 47, 3) := by decide +kernel
theorem dX2_weeksOf_67 : decode cX2_weeksOf 67 = .ok (.iload 5, 2) := by decide +kernel
theorem dX2_weeksOf_69 : decode cX2_weeksOf 69 = .ok (.iaload, 1) := by decide +kernel
theorem dX2_weeksOf_70 : decode cX2_weeksOf 70 = .ok (.iload_n 1, 1) := by decide +kernel
theorem dX2_weeksOf_71 : decode cX2_weeksOf 71 = .ok (.if_icmp .ne 12, 3) := by decide +kernel
theorem dX2_weeksOf_74 : decode cX2_weeksOf 74 = .ok (.aload 4, 2) := by decide +kernel
theorem dX2_weeksOf_76 : decode cX2_weeksOf 76 = .ok (.getfield 50, 3) := by decide +kernel
theorem dX2_weeksOf_79 : decode cX2_weeksOf 79 = .ok (.iload 5, 2) := by decide +kernel
theorem dX2_weeksOf_81 : decode cX2_weeksOf 81 = .ok (.iaload, 1) := by decide +kernel
theorem dX2_weeksOf_82 : decode cX2_weeksOf 82 = .ok (.istore_n 2, 1) := by decide +kernel
def ms_J6_bitCount_0f7a4 : List (Nat × Nat) := []
def po_J6_bitCount_0f7a4 (kp : Nat → Nat) (L : List Nat) (f0 : Nat → va_E) (u1 : Int32) : Option Value → (Nat → va_E) → Prop := fun v f => (∃ r : Int32, v = some (.int r) ∧ ((0 : Int) ≤ r.toInt ∧ r.toInt ≤ 63)) ∧ FM kp L ms_J6_bitCount_0f7a4 f0 f
set_option maxHeartbeats 4000000 in
set_option maxRecDepth 100000 in
theorem c_J6_bitCount_0f7a4 (l : Launch) (G : va_G) (cI cJ cZ cD cR cT : ClassId) (kp : Nat → Nat) (L : List Nat) (f0 : Nat → va_E) (hTH : TH cI cJ cZ cD cR cT kp L f0) (sz : Nat) (u1 : Int32) (pu1 : (0 : Int) ≤ u1.toInt) : Met l yJ6_bitCount_0f7a4 (Cond.code yJ6_bitCount_0f7a4 cJ6_bitCount_0f7a4 1 (some .int) :: wTab) ({ frames := 1, cells := 0, slots := 0, locals := 40 }) (va_Pc [.int u1] (PreW G (tys6 cI cJ cZ cD cR cT) (va_pl L f0) sz)) (QT (po_J6_bitCount_0f7a4 kp L f0 u1) G cI cJ cZ cD cR cT (va_A (va_pl L f0) sz) kp L) 0 0 (va_A (va_pl L f0) sz) := by
  refine metT (by decide) (Nat.le_of_ble_eq_true rfl) hTH ?_
  intro p e s m below meth c A ls E hW hl
  obtain ⟨hx, hb, -, hml, hown, hts, -, -, -⟩ := id E
  have hF : FM kp L ms_J6_bitCount_0f7a4 f0 f0 := FM.rf
  have hl : lv_has ls 1 [(0, .int u1)] := hl
  refine lv_iload_n hx hb dJ6_bitCount_0f7a4_0 rfl (lv_at hl 0 rfl) ?_
  refine lv_iload_n hx hb dJ6_bitCount_0f7a4_1 rfl (lv_at hl 0 rfl) ?_
  refine lv_iconst (v := 1) hx hb dJ6_bitCount_0f7a4_2 (by decide) ?_
  refine u_iushr hx hb dJ6_bitCount_0f7a4_3 (fun x1 => ?_)
  refine lv_ldcw (v := 1431655765) hx hb hown (hts _ tw_1249) dJ6_bitCount_0f7a4_4 ?_
  refine u_iand hx hb dJ6_bitCount_0f7a4_7 (fun x2 => ?_)
  refine u_isub hx hb dJ6_bitCount_0f7a4_8 (fun x3 => ?_)
  refine lv_istore_n (lv' := [(0, .int x3)]) hx hb dJ6_bitCount_0f7a4_9 rfl hl (by decide) rfl (fun ls hl => ?_)
  refine lv_iload_n hx hb dJ6_bitCount_0f7a4_10 rfl (lv_at hl 0 rfl) ?_
  refine lv_ldcw (v := 858993459) hx hb hown (hts _ tw_1250) dJ6_bitCount_0f7a4_11 ?_
  refine u_iand hx hb dJ6_bitCount_0f7a4_14 (fun x4 => ?_)
  refine lv_iload_n hx hb dJ6_bitCount_0f7a4_15 rfl (lv_at hl 0 rfl) ?_
  refine lv_iconst (v := 2) hx hb dJ6_bitCount_0f7a4_16 (by decide) ?_
  refine u_iushr hx hb dJ6_bitCount_0f7a4_17 (fun x5 => ?_)
  refine lv_ldcw (v := 858993459) hx hb hown (hts _ tw_1250) dJ6_bitCount_0f7a4_18 ?_
  refine u_iand hx hb dJ6_bitCount_0f7a4_21 (fun x6 => ?_)
  refine u_iadd hx hb dJ6_bitCount_0f7a4_22 (fun x7 => ?_)
  refine lv_istore_n (lv' := [(0, .int x7)]) hx hb dJ6_bitCount_0f7a4_23 rfl hl (by decide) rfl (fun ls hl => ?_)
  refine lv_iload_n hx hb dJ6_bitCount_0f7a4_24 rfl (lv_at hl 0 rfl) ?_
  refine lv_iload_n hx hb dJ6_bitCount_0f7a4_25 rfl (lv_at hl 0 rfl) ?_
  refine lv_iconst (v := 4) hx hb dJ6_bitCount_0f7a4_26 (by decide) ?_
  refine u_iushr hx hb dJ6_bitCount_0f7a4_27 (fun x8 => ?_)
  refine u_iadd hx hb dJ6_bitCount_0f7a4_28 (fun x9 => ?_)
  refine lv_ldcw (v := 252645135) hx hb hown (hts _ tw_1251) dJ6_bitCount_0f7a4_29 ?_
  refine u_iand hx hb dJ6_bitCount_0f7a4_32 (fun x10 => ?_)
  refine lv_istore_n (lv' := [(0, .int x10)]) hx hb dJ6_bitCount_0f7a4_33 rfl hl (by decide) rfl (fun ls hl => ?_)
  refine lv_iload_n hx hb dJ6_bitCount_0f7a4_34 rfl (lv_at hl 0 rfl) ?_
  refine lv_iload_n hx hb dJ6_bitCount_0f7a4_35 rfl (lv_at hl 0 rfl) ?_
  refine lv_bipush (v := 8) hx hb dJ6_bitCount_0f7a4_36 (by decide) ?_
  refine u_iushr hx hb dJ6_bitCount_0f7a4_38 (fun x11 => ?_)
  refine u_iadd hx hb dJ6_bitCount_0f7a4_39 (fun x12 => ?_)
  refine lv_istore_n (lv' := [(0, .int x12)]) hx hb dJ6_bitCount_0f7a4_40 rfl hl (by decide) rfl (fun ls hl => ?_)
  refine lv_iload_n hx hb dJ6_bitCount_0f7a4_41 rfl (lv_at hl 0 rfl) ?_
  refine lv_iload_n hx hb dJ6_bitCount_0f7a4_42 rfl (lv_at hl 0 rfl) ?_
  refine lv_bipush (v := 16) hx hb dJ6_bitCount_0f7a4_43 (by decide) ?_
  refine u_iushr hx hb dJ6_bitCount_0f7a4_45 (fun x13 => ?_)
  refine u_iadd hx hb dJ6_bitCount_0f7a4_46 (fun x14 => ?_)
  refine lv_istore_n (lv' := [(0, .int x14)]) hx hb dJ6_bitCount_0f7a4_47 rfl hl (by decide) rfl (fun ls hl => ?_)
  refine lv_iload_n hx hb dJ6_bitCount_0f7a4_48 rfl (lv_at hl 0 rfl) ?_
  refine lv_bipush (v := 63) hx hb dJ6_bitCount_0f7a4_49 (by decide) ?_
  refine q_iand (M := 63) (k := 6) hx hb dJ6_bitCount_0f7a4_51 (by decide) (by decide) (by decide) (fun x15 h16 => ?_)
  exact e_I E hW rfl ⟨⟨_, rfl, (by first | omega | trivial)⟩, hF⟩ dJ6_bitCount_0f7a4_52
def ms_X4_add : List (Nat × Nat) := [(4, 0), (341, 0), (342, 0), (343, 0), (344, 0), (345, 0), (346, 0), (347, 0), (348, 0)]
def po_X4_add (kp : Nat → Nat) (L : List Nat) (f0 : Nat → va_E) (h0 : Nat) (u1 : Int32) (u2 : Int32) (u3 : Int32) : Option Value → (Nat → va_E) → Prop := fun v f => (∃ r : Int32, v = some (.int r) ∧ ((-1 : Int) ≤ r.toInt ∧ r.toInt ≤ 39)) ∧ FM kp L ms_X4_add f0 f
set_option maxHeartbeats 4000000 in
set_option maxRecDepth 100000 in
theorem c_X4_add (l : Launch) (G : va_G) (cI cJ cZ cD cR cT : ClassId) (kp : Nat → Nat) (L : List Nat) (f0 : Nat → va_E) (hTH : TH cI cJ cZ cD cR cT kp L f0) (sz : Nat) (h0 : Nat) (u1 : Int32) (u2 : Int32) (u3 : Int32) (rh0 : RK kp L h0 4) (pu1 : (0 : Int) ≤ u1.toInt ∧ u1.toInt ≤ 19) (pu2 : (0 : Int) ≤ u2.toInt ∧ u2.toInt ≤ 1000000) (pu3 : (0 : Int) ≤ u3.toInt ∧ u3.toInt ≤ 100) : Met l yX4_add (Cond.code yX4_add cX4_add 5 (some .int) :: wTab) ({ frames := 1, cells := 0, slots := 0, locals := 40 }) (va_Pc [.ref h0, .int u1, .int u2, .int u3] (PreW G (tys6 cI cJ cZ cD cR cT) (va_pl L f0) sz)) (QT (po_X4_add kp L f0 h0 u1 u2 u3) G cI cJ cZ cD cR cT (va_A (va_pl L f0) sz) kp L) 0 0 (va_A (va_pl L f0) sz) := by
  refine metT (by decide) (Nat.le_of_ble_eq_true rfl) hTH ?_
  intro p e s m below meth c A ls E hW hl
  obtain ⟨hx, hb, -, hml, hown, hts, -, -, -⟩ := id E
  have hF : FM kp L ms_X4_add f0 f0 := FM.rf
  have hl : lv_has ls 5 [(0, .ref h0), (1, .int u1), (2, .int u2), (3, .int u3)] := hl
  refine lv_aload_n hx hb dX4_add_0 rfl (lv_at hl 0 rfl) ?_
  refine fg_RX4_39 E hW rh0 dX4_add_1 (fun y1 m2 b3 => ?_)
  refine lv_bipush (v := 40) hx hb dX4_add_4 (by decide) ?_
  refine q_icmp_lt (Y := 40) (tgt := 11) hx hb dX4_add_6 (by decide) rfl rfl (fun c4 => ?_) (fun c4 => ?_)
  · refine lv_aload_n hx hb dX4_add_11 rfl (lv_at hl 0 rfl) ?_
    refine fg_RX4_39 E hW rh0 dX4_add_12 (fun y5 m6 b7 => ?_)
    obtain rfl : y1 = y5 := (m2).symm.trans m6
    refine lv_istore (lv' := [(4, .int y1), (0, .ref h0), (1, .int u1), (2, .int u2), (3, .int u3)]) hx hb dX4_add_15 hl (by decide) rfl (fun ls hl => ?_)
    refine lv_aload_n hx hb dX4_add_17 rfl (lv_at hl 1 rfl) ?_
    refine fg_RX4_9 E hW rh0 dX4_add_18 (fun a8 m9 r10 => ?_)
    refine lv_iload hx hb dX4_add_21 (lv_at hl 0 rfl) ?_
    refine lv_iload_n hx hb dX4_add_23 rfl (lv_at hl 2 rfl) ?_
    refine gs_341 E hW r10 ⟨by omega, by omega⟩ dX4_add_24 (fun f11 H locs e12 n13 g14 hW => ?_)
    have hF := FM.tr hF g14 rfl
    refine lv_aload_n hx hb dX4_add_25 rfl (lv_at hl 1 rfl) ?_
    refine fg_RX4_15 E hW rh0 dX4_add_26 (fun a15 m16 r17 => ?_)
    refine lv_iload hx hb dX4_add_29 (lv_at hl 0 rfl) ?_
    refine lv_iload_n hx hb dX4_add_31 rfl (lv_at hl 3 rfl) ?_
    refine gs_342 E hW r17 ⟨by omega, by omega⟩ dX4_add_32 (fun f18 H locs e19 n20 g21 hW => ?_)
    have hF := FM.tr hF g21 rfl
    refine lv_aload_n hx hb dX4_add_33 rfl (lv_at hl 1 rfl) ?_
    refine fg_RX4_18 E hW rh0 dX4_add_34 (fun a22 m23 r24 => ?_)
    refine lv_iload hx hb dX4_add_37 (lv_at hl 0 rfl) ?_
    refine lv_iload_n hx hb dX4_add_39 rfl (lv_at hl 4 rfl) ?_
    refine gs_343 E hW r24 ⟨by omega, by omega⟩ dX4_add_40 (fun f25 H locs e26 n27 g28 hW => ?_)
    have hF := FM.tr hF g28 rfl
    refine lv_aload_n hx hb dX4_add_41 rfl (lv_at hl 1 rfl) ?_
    refine fg_RX4_21 E hW rh0 dX4_add_42 (fun a29 m30 r31 => ?_)
    refine lv_iload hx hb dX4_add_45 (lv_at hl 0 rfl) ?_
    refine lv_iconst (v := (-1)) hx hb dX4_add_47 (by decide) ?_
    refine gs_344 E hW r31 ⟨by omega, by omega⟩ (by decide) dX4_add_48 (fun f32 H locs e33 n34 g35 hW => ?_)
    have hF := FM.tr hF g35 rfl
    refine lv_aload_n hx hb dX4_add_49 rfl (lv_at hl 1 rfl) ?_
    refine fg_RX4_24 E hW rh0 dX4_add_50 (fun a36 m37 r38 => ?_)
    refine lv_iload hx hb dX4_add_53 (lv_at hl 0 rfl) ?_
    refine lv_iconst (v := 0) hx hb dX4_add_55 (by decide) ?_
    refine gs_345 E hW r38 ⟨by omega, by omega⟩ dX4_add_56 (fun f39 H locs e40 n41 g42 hW => ?_)
    have hF := FM.tr hF g42 rfl
    refine lv_aload_n hx hb dX4_add_57 rfl (lv_at hl 1 rfl) ?_
    refine fg_RX4_27 E hW rh0 dX4_add_58 (fun a43 m44 r45 => ?_)
    refine lv_iload hx hb dX4_add_61 (lv_at hl 0 rfl) ?_
    refine lv_iconst (v := 0) hx hb dX4_add_63 (by decide) ?_
    refine gs_346 E hW r45 ⟨by omega, by omega⟩ dX4_add_64 (fun f46 H locs e47 n48 g49 hW => ?_)
    have hF := FM.tr hF g49 rfl
    refine lv_aload_n hx hb dX4_add_65 rfl (lv_at hl 1 rfl) ?_
    refine fg_RX4_30 E hW rh0 dX4_add_66 (fun a50 m51 r52 => ?_)
    refine lv_iload hx hb dX4_add_69 (lv_at hl 0 rfl) ?_
    refine lv_iconst (v := (-1)) hx hb dX4_add_71 (by decide) ?_
    refine gs_347 E hW r52 ⟨by omega, by omega⟩ dX4_add_72 (fun f53 H locs e54 n55 g56 hW => ?_)
    have hF := FM.tr hF g56 rfl
    refine lv_aload_n hx hb dX4_add_73 rfl (lv_at hl 1 rfl) ?_
    refine fg_RX4_33 E hW rh0 dX4_add_74 (fun a57 m58 r59 => ?_)
    refine lv_iload hx hb dX4_add_77 (lv_at hl 0 rfl) ?_
    refine lv_iconst (v := 0) hx hb dX4_add_79 (by decide) ?_
    refine gs_348 E hW r59 ⟨by omega, by omega⟩ dX4_add_80 (fun f60 H locs e61 n62 g63 hW => ?_)
    have hF := FM.tr hF g63 rfl
    refine lv_aload_n hx hb dX4_add_81 rfl (lv_at hl 1 rfl) ?_
    refine lv_dup hx hb dX4_add_82 rfl ?_
    refine fg_RX4_39 E hW rh0 dX4_add_83 (fun y64 m65 b66 => ?_)
    obtain rfl : y1 = y64 := (((fm_I g63 rh0 rfl).trans ((fm_I g56 rh0 rfl).trans ((fm_I g49 rh0 rfl).trans ((fm_I g42 rh0 rfl).trans ((fm_I g35 rh0 rfl).trans ((fm_I g28 rh0 rfl).trans ((fm_I g21 rh0 rfl).trans ((fm_I g14 rh0 rfl).trans m6))))))))).symm.trans m65
    refine lv_iconst (v := 1) hx hb dX4_add_86 (by decide) ?_
    refine q_iadd (Y := 1) hx hb dX4_add_87 rfl rfl (by omega) (fun x67 h68 => ?_)
    refine fp_RX4_39 E hW rh0 (by omega) dX4_add_88 (fun f69 H locs e70 n71 g72 hW => ?_)
    have hF := FM.tr hF g72 rfl
    refine lv_iload hx hb dX4_add_91 (lv_at hl 0 rfl) ?_
    exact e_I E hW rfl ⟨⟨_, rfl, (by first | omega | trivial)⟩, hF⟩ dX4_add_93
  · refine lv_iconst (v := (-1)) hx hb dX4_add_9 (by decide) ?_
    exact e_I E hW rfl ⟨⟨_, rfl, (by have hk : ((-1) : Int32).toInt = -1 := rfl; first | decide | omega)⟩, hF⟩ dX4_add_10
def ms_X4_copyFrom : List (Nat × Nat) := [(4, 0), (341, 0), (342, 0), (343, 0), (344, 0), (345, 0), (346, 0), (347, 0), (348, 0)]
def po_X4_copyFrom (kp : Nat → Nat) (L : List Nat) (f0 : Nat → va_E) (h0 : Nat) (u1 : Nat) : Option Value → (Nat → va_E) → Prop := fun v f => v = none ∧ FM kp L ms_X4_copyFrom f0 f
set_option maxHeartbeats 4000000 in
set_option maxRecDepth 100000 in
theorem c_X4_copyFrom (l : Launch) (G : va_G) (cI cJ cZ cD cR cT : ClassId) (kp : Nat → Nat) (L : List Nat) (f0 : Nat → va_E) (hTH : TH cI cJ cZ cD cR cT kp L f0) (sz : Nat) (h0 : Nat) (u1 : Nat) (rh0 : RK kp L h0 4) (ru1 : RK kp L u1 4) : Met l yX4_copyFrom (Cond.code yX4_copyFrom cX4_copyFrom 2 none :: wTab) ({ frames := 1, cells := 0, slots := 0, locals := 60 }) (va_Pc [.ref h0, .ref u1] (PreW G (tys6 cI cJ cZ cD cR cT) (va_pl L f0) sz)) (QT (po_X4_copyFrom kp L f0 h0 u1) G cI cJ cZ cD cR cT (va_A (va_pl L f0) sz) kp L) 0 0 (va_A (va_pl L f0) sz) := by
  refine metT (by decide) (Nat.le_of_ble_eq_true rfl) hTH ?_
  intro p e s m below meth c A ls E hW hl
  obtain ⟨hx, hb, -, hml, hown, hts, -, -, -⟩ := id E
  have hF : FM kp L ms_X4_copyFrom f0 f0 := FM.rf
  have hl : lv_has ls 2 [(0, .ref h0), (1, .ref u1)] := hl
  refine lv_aload_n hx hb dX4_copyFrom_0 rfl (lv_at hl 0 rfl) ?_
  refine lv_aload_n hx hb dX4_copyFrom_1 rfl (lv_at hl 1 rfl) ?_
  refine fg_RX4_39 E hW ru1 dX4_copyFrom_2 (fun y1 m2 b3 => ?_)
  refine fp_RX4_39 E hW rh0 (by omega) dX4_copyFrom_5 (fun f4 H locs e5 n6 g7 hW => ?_)
  have hF := FM.tr hF g7 rfl
  refine lv_aload_n hx hb dX4_copyFrom_8 rfl (lv_at hl 1 rfl) ?_
  refine fg_RX4_9 E hW ru1 dX4_copyFrom_9 (fun a8 m9 r10 => ?_)
  refine lv_iconst (v := 0) hx hb dX4_copyFrom_12 (by decide) ?_
  refine lv_aload_n hx hb dX4_copyFrom_13 rfl (lv_at hl 0 rfl) ?_
  refine fg_RX4_9 E hW rh0 dX4_copyFrom_14 (fun a11 m12 r13 => ?_)
  refine lv_iconst (v := 0) hx hb dX4_copyFrom_17 (by decide) ?_
  refine lv_bipush (v := 40) hx hb dX4_copyFrom_18 (by decide) ?_
  refine t_copy (N := 40) (n0 := 40) (n1 := 40) E hW tw_1293 ⟨tw_1004, tw_1003, tw_122⟩ hl.1 rfl r10 (by decide) rfl r13 (by decide) rfl rfl (by decide) rfl (by decide) (by decide) (by decide) (fun _ _ => trivial) ⟨Nat.le_of_ble_eq_true rfl, Nat.le_of_ble_eq_true rfl⟩ dX4_copyFrom_20 (fun f14 H locs n16 g17 hW => ?_)
  have hF := FM.tr hF g17 rfl
  refine lv_aload_n hx hb dX4_copyFrom_23 rfl (lv_at hl 1 rfl) ?_
  refine fg_RX4_15 E hW ru1 dX4_copyFrom_24 (fun a18 m19 r20 => ?_)
  refine lv_iconst (v := 0) hx hb dX4_copyFrom_27 (by decide) ?_
  refine lv_aload_n hx hb dX4_copyFrom_28 rfl (lv_at hl 0 rfl) ?_
  refine fg_RX4_15 E hW rh0 dX4_copyFrom_29 (fun a21 m22 r23 => ?_)
  refine lv_iconst (v := 0) hx hb dX4_copyFrom_32 (by decide) ?_
  refine lv_bipush (v := 40) hx hb dX4_copyFrom_33 (by decide) ?_
  refine t_copy (N := 40) (n0 := 40) (n1 := 40) E hW tw_1293 ⟨tw_1004, tw_1003, tw_122⟩ hl.1 rfl r20 (by decide) rfl r23 (by decide) rfl rfl (by decide) rfl (by decide) (by decide) (by decide) (fun _ _ => trivial) ⟨Nat.le_of_ble_eq_true rfl, Nat.le_of_ble_eq_true rfl⟩ dX4_copyFrom_35 (fun f24 H locs n26 g27 hW => ?_)
  have hF := FM.tr hF g27 rfl
  refine lv_aload_n hx hb dX4_copyFrom_38 rfl (lv_at hl 1 rfl) ?_
  refine fg_RX4_18 E hW ru1 dX4_copyFrom_39 (fun a28 m29 r30 => ?_)
  refine lv_iconst (v := 0) hx hb dX4_copyFrom_42 (by decide) ?_
  refine lv_aload_n hx hb dX4_copyFrom_43 rfl (lv_at hl 0 rfl) ?_
  refine fg_RX4_18 E hW rh0 dX4_copyFrom_44 (fun a31 m32 r33 => ?_)
  refine lv_iconst (v := 0) hx hb dX4_copyFrom_47 (by decide) ?_
  refine lv_bipush (v := 40) hx hb dX4_copyFrom_48 (by decide) ?_
  refine t_copy (N := 40) (n0 := 40) (n1 := 40) E hW tw_1293 ⟨tw_1004, tw_1003, tw_122⟩ hl.1 rfl r30 (by decide) rfl r33 (by decide) rfl rfl (by decide) rfl (by decide) (by decide) (by decide) (fun _ _ => trivial) ⟨Nat.le_of_ble_eq_true rfl, Nat.le_of_ble_eq_true rfl⟩ dX4_copyFrom_50 (fun f34 H locs n36 g37 hW => ?_)
  have hF := FM.tr hF g37 rfl
  refine lv_aload_n hx hb dX4_copyFrom_53 rfl (lv_at hl 1 rfl) ?_
  refine fg_RX4_21 E hW ru1 dX4_copyFrom_54 (fun a38 m39 r40 => ?_)
  refine lv_iconst (v := 0) hx hb dX4_copyFrom_57 (by decide) ?_
  refine lv_aload_n hx hb dX4_copyFrom_58 rfl (lv_at hl 0 rfl) ?_
  refine fg_RX4_21 E hW rh0 dX4_copyFrom_59 (fun a41 m42 r43 => ?_)
  refine lv_iconst (v := 0) hx hb dX4_copyFrom_62 (by decide) ?_
  refine lv_bipush (v := 40) hx hb dX4_copyFrom_63 (by decide) ?_
  refine t_copy (N := 40) (n0 := 40) (n1 := 40) E hW tw_1293 ⟨tw_1004, tw_1003, tw_122⟩ hl.1 rfl r40 (by decide) rfl r43 (by decide) rfl rfl (by decide) rfl (by decide) (by decide) (by decide) (fun h0 h1 => AB_cpy h0 h1) ⟨Nat.le_of_ble_eq_true rfl, Nat.le_of_ble_eq_true rfl⟩ dX4_copyFrom_65 (fun f44 H locs n46 g47 hW => ?_)
  have hF := FM.tr hF g47 rfl
  refine lv_aload_n hx hb dX4_copyFrom_68 rfl (lv_at hl 1 rfl) ?_
  refine fg_RX4_24 E hW ru1 dX4_copyFrom_69 (fun a48 m49 r50 => ?_)
  refine lv_iconst (v := 0) hx hb dX4_copyFrom_72 (by decide) ?_
  refine lv_aload_n hx hb dX4_copyFrom_73 rfl (lv_at hl 0 rfl) ?_
  refine fg_RX4_24 E hW rh0 dX4_copyFrom_74 (fun a51 m52 r53 => ?_)
  refine lv_iconst (v := 0) hx hb dX4_copyFrom_77 (by decide) ?_
  refine lv_bipush (v := 40) hx hb dX4_copyFrom_78 (by decide) ?_
  refine t_copy (N := 40) (n0 := 40) (n1 := 40) E hW tw_1293 ⟨tw_1004, tw_1003, tw_122⟩ hl.1 rfl r50 (by decide) rfl r53 (by decide) rfl rfl (by decide) rfl (by decide) (by decide) (by decide) (fun _ _ => trivial) ⟨Nat.le_of_ble_eq_true rfl, Nat.le_of_ble_eq_true rfl⟩ dX4_copyFrom_80 (fun f54 H locs n56 g57 hW => ?_)
  have hF := FM.tr hF g57 rfl
  refine lv_aload_n hx hb dX4_copyFrom_83 rfl (lv_at hl 1 rfl) ?_
  refine fg_RX4_27 E hW ru1 dX4_copyFrom_84 (fun a58 m59 r60 => ?_)
  refine lv_iconst (v := 0) hx hb dX4_copyFrom_87 (by decide) ?_
  refine lv_aload_n hx hb dX4_copyFrom_88 rfl (lv_at hl 0 rfl) ?_
  refine fg_RX4_27 E hW rh0 dX4_copyFrom_89 (fun a61 m62 r63 => ?_)
  refine lv_iconst (v := 0) hx hb dX4_copyFrom_92 (by decide) ?_
  refine lv_bipush (v := 40) hx hb dX4_copyFrom_93 (by decide) ?_
  refine t_copy (N := 40) (n0 := 40) (n1 := 40) E hW tw_1293 ⟨tw_1004, tw_1003, tw_122⟩ hl.1 rfl r60 (by decide) rfl r63 (by decide) rfl rfl (by decide) rfl (by decide) (by decide) (by decide) (fun _ _ => trivial) ⟨Nat.le_of_ble_eq_true rfl, Nat.le_of_ble_eq_true rfl⟩ dX4_copyFrom_95 (fun f64 H locs n66 g67 hW => ?_)
  have hF := FM.tr hF g67 rfl
  refine lv_aload_n hx hb dX4_copyFrom_98 rfl (lv_at hl 1 rfl) ?_
  refine fg_RX4_30 E hW ru1 dX4_copyFrom_99 (fun a68 m69 r70 => ?_)
  refine lv_iconst (v := 0) hx hb dX4_copyFrom_102 (by decide) ?_
  refine lv_aload_n hx hb dX4_copyFrom_103 rfl (lv_at hl 0 rfl) ?_
  refine fg_RX4_30 E hW rh0 dX4_copyFrom_104 (fun a71 m72 r73 => ?_)
  refine lv_iconst (v := 0) hx hb dX4_copyFrom_107 (by decide) ?_
  refine lv_bipush (v := 40) hx hb dX4_copyFrom_108 (by decide) ?_
  refine t_copy (N := 40) (n0 := 40) (n1 := 40) E hW tw_1293 ⟨tw_1004, tw_1003, tw_122⟩ hl.1 rfl r70 (by decide) rfl r73 (by decide) rfl rfl (by decide) rfl (by decide) (by decide) (by decide) (fun _ _ => trivial) ⟨Nat.le_of_ble_eq_true rfl, Nat.le_of_ble_eq_true rfl⟩ dX4_copyFrom_110 (fun f74 H locs n76 g77 hW => ?_)
  have hF := FM.tr hF g77 rfl
  refine lv_aload_n hx hb dX4_copyFrom_113 rfl (lv_at hl 1 rfl) ?_
  refine fg_RX4_33 E hW ru1 dX4_copyFrom_114 (fun a78 m79 r80 => ?_)
  refine lv_iconst (v := 0) hx hb dX4_copyFrom_117 (by decide) ?_
  refine lv_aload_n hx hb dX4_copyFrom_118 rfl (lv_at hl 0 rfl) ?_
  refine fg_RX4_33 E hW rh0 dX4_copyFrom_119 (fun a81 m82 r83 => ?_)
  refine lv_iconst (v := 0) hx hb dX4_copyFrom_122 (by decide) ?_
  refine lv_bipush (v := 40) hx hb dX4_copyFrom_123 (by decide) ?_
  refine t_copy (N := 40) (n0 := 40) (n1 := 40) E hW tw_1293 ⟨tw_1004, tw_1003, tw_122⟩ hl.1 rfl r80 (by decide) rfl r83 (by decide) rfl rfl (by decide) rfl (by decide) (by decide) (by decide) (fun _ _ => trivial) ⟨Nat.le_of_ble_eq_true rfl, Nat.le_of_ble_eq_true rfl⟩ dX4_copyFrom_125 (fun f84 H locs n86 g87 hW => ?_)
  have hF := FM.tr hF g87 rfl
  exact e_V E hW rfl ⟨rfl, hF⟩ dX4_copyFrom_128
def ms_X4_gain : List (Nat × Nat) := [(342, 0)]
def po_X4_gain (kp : Nat → Nat) (L : List Nat) (f0 : Nat → va_E) (h0 : Nat) (u1 : Int32) (u2 : Int32) : Option Value → (Nat → va_E) → Prop := fun v f => v = none ∧ FM kp L ms_X4_gain f0 f
set_option maxHeartbeats 4000000 in
set_option maxRecDepth 100000 in
theorem c_X4_gain (l : Launch) (G : va_G) (cI cJ cZ cD cR cT : ClassId) (kp : Nat → Nat) (L : List Nat) (f0 : Nat → va_E) (hTH : TH cI cJ cZ cD cR cT kp L f0) (sz : Nat) (h0 : Nat) (u1 : Int32) (u2 : Int32) (rh0 : RK kp L h0 4) (pu1 : (0 : Int) ≤ u1.toInt ∧ u1.toInt ≤ 39) (pu2 : (0 : Int) ≤ u2.toInt) : Met l yX4_gain (Cond.code yX4_gain cX4_gain 3 none :: wTab) ({ frames := 1, cells := 0, slots := 0, locals := 60 }) (va_Pc [.ref h0, .int u1, .int u2] (PreW G (tys6 cI cJ cZ cD cR cT) (va_pl L f0) sz)) (QT (po_X4_gain kp L f0 h0 u1 u2) G cI cJ cZ cD cR cT (va_A (va_pl L f0) sz) kp L) 0 0 (va_A (va_pl L f0) sz) := by
  refine metT (by decide) (Nat.le_of_ble_eq_true rfl) hTH ?_
  intro p e s m below meth c A ls E hW hl
  obtain ⟨hx, hb, -, hml, hown, hts, -, -, -⟩ := id E
  have hF : FM kp L ms_X4_gain f0 f0 := FM.rf
  have hl : lv_has ls 3 [(0, .ref h0), (1, .int u1), (2, .int u2)] := hl
  refine lv_aload_n hx hb dX4_gain_0 rfl (lv_at hl 0 rfl) ?_
  refine fg_RX4_15 E hW rh0 dX4_gain_1 (fun a1 m2 r3 => ?_)
  refine lv_iload_n hx hb dX4_gain_4 rfl (lv_at hl 1 rfl) ?_
  refine lv_aload_n hx hb dX4_gain_5 rfl (lv_at hl 0 rfl) ?_
  refine fg_RX4_15 E hW rh0 dX4_gain_6 (fun a4 m5 r6 => ?_)
  obtain rfl : a1 = a4 := (m2).symm.trans m5
  refine lv_iload_n hx hb dX4_gain_9 rfl (lv_at hl 1 rfl) ?_
  refine gl_342 E hW r3 ⟨by omega, by omega⟩ dX4_gain_10 (fun y7 m8 => ?_)
  refine lv_iload_n hx hb dX4_gain_11 rfl (lv_at hl 2 rfl) ?_
  refine u_iadd hx hb dX4_gain_12 (fun x10 => ?_)
  refine lv_ldc (v := 10000000) hx hb hown (hts _ tw_635) dX4_gain_13 ?_
  refine t_min (Y := 10000000) (own := RX4) E tw_636 ⟨tw_637, tw_115, tw_638⟩ hl.1 ⟨Nat.le_of_ble_eq_true rfl, Nat.le_of_ble_eq_true rfl⟩ ⟨Nat.le_of_ble_eq_true rfl, Nat.le_of_ble_eq_true rfl⟩ rfl rfl dX4_gain_15 (fun x11 h12 => ?_)
  refine gs_342 E hW r3 ⟨by omega, by omega⟩ dX4_gain_18 (fun f13 H locs e14 n15 g16 hW => ?_)
  have hF := FM.tr hF g16 rfl
  exact e_V E hW rfl ⟨rfl, hF⟩ dX4_gain_19
def ms_X4_has : List (Nat × Nat) := []
def po_X4_has (kp : Nat → Nat) (L : List Nat) (f0 : Nat → va_E) (h0 : Nat) (u1 : Int32) : Option Value → (Nat → va_E) → Prop := fun v f => (∃ r : Int32, v = some (.int r) ∧ ((r.toInt = 1 ∧ 0 ≤ u1.toInt ∧ u1.toInt ≤ 39) ∨ r.toInt = 0)) ∧ FM kp L ms_X4_has f0 f
set_option maxHeartbeats 4000000 in
set_option maxRecDepth 100000 in
theorem c_X4_has (l : Launch) (G : va_G) (cI cJ cZ cD cR cT : ClassId) (kp : Nat → Nat) (L : List Nat) (f0 : Nat → va_E) (hTH : TH cI cJ cZ cD cR cT kp L f0) (sz : Nat) (h0 : Nat) (u1 : Int32) (rh0 : RK kp L h0 4) : Met l yX4_has (Cond.code yX4_has cX4_has 2 (some .boolean) :: wTab) ({ frames := 1, cells := 0, slots := 0, locals := 40 }) (va_Pc [.ref h0, .int u1] (PreW G (tys6 cI cJ cZ cD cR cT) (va_pl L f0) sz)) (QT (po_X4_has kp L f0 h0 u1) G cI cJ cZ cD cR cT (va_A (va_pl L f0) sz) kp L) 0 0 (va_A (va_pl L f0) sz) := by
  refine metT (by decide) (Nat.le_of_ble_eq_true rfl) hTH ?_
  intro p e s m below meth c A ls E hW hl
  obtain ⟨hx, hb, -, hml, hown, hts, -, -, -⟩ := id E
  have hF : FM kp L ms_X4_has f0 f0 := FM.rf
  have hl : lv_has ls 2 [(0, .ref h0), (1, .int u1)] := hl
  refine lv_iload_n hx hb dX4_has_0 rfl (lv_at hl 1 rfl) ?_
  refine q_if_lt (tgt := 16) hx hb dX4_has_1 (by decide) rfl (fun c1 => ?_) (fun c1 => ?_)
  · refine lv_iconst (v := 0) hx hb dX4_has_16 (by decide) ?_
    exact e_Z E hW rfl (by decide) ⟨⟨_, rfl, (by have hk : (0 : Int32).toInt = 0 := rfl; first | decide | omega)⟩, hF⟩ dX4_has_17
  · refine lv_iload_n hx hb dX4_has_4 rfl (lv_at hl 1 rfl) ?_
    refine lv_aload_n hx hb dX4_has_5 rfl (lv_at hl 0 rfl) ?_
    refine fg_RX4_39 E hW rh0 dX4_has_6 (fun y2 m3 b4 => ?_)
    refine q_icmp_ge (tgt := 16) hx hb dX4_has_9 (by decide) rfl rfl (fun c5 => ?_) (fun c5 => ?_)
    · refine lv_iconst (v := 0) hx hb dX4_has_16 (by decide) ?_
      exact e_Z E hW rfl (by decide) ⟨⟨_, rfl, (by have hk : (0 : Int32).toInt = 0 := rfl; first | decide | omega)⟩, hF⟩ dX4_has_17
    · refine lv_iconst (v := 1) hx hb dX4_has_12 (by decide) ?_
      refine lv_goto (tgt := 17) hx hb dX4_has_13 (by decide) ?_
      exact e_Z E hW rfl (by decide) ⟨⟨_, rfl, (by have hk : (1 : Int32).toInt = 1 := rfl; first | decide | omega)⟩, hF⟩ dX4_has_17
def ms_X4_isAbout : List (Nat × Nat) := []
def po_X4_isAbout (kp : Nat → Nat) (L : List Nat) (f0 : Nat → va_E) (h0 : Nat) (u1 : Int32) : Option Value → (Nat → va_E) → Prop := fun v f => (∃ r : Int32, v = some (.int r) ∧ ((0 : Int) ≤ r.toInt ∧ r.toInt ≤ 1)) ∧ FM kp L ms_X4_isAbout f0 f
set_option maxHeartbeats 4000000 in
set_option maxRecDepth 100000 in
theorem c_X4_isAbout (l : Launch) (G : va_G) (cI cJ cZ cD cR cT : ClassId) (kp : Nat → Nat) (L : List Nat) (f0 : Nat → va_E) (hTH : TH cI cJ cZ cD cR cT kp L f0) (sz : Nat) (h0 : Nat) (u1 : Int32) (rh0 : RK kp L h0 4) (pu1 : (0 : Int) ≤ u1.toInt ∧ u1.toInt ≤ 39) : Met l yX4_isAbout (Cond.code yX4_isAbout cX4_isAbout 2 (some .boolean) :: wTab) ({ frames := 1, cells := 0, slots := 0, locals := 40 }) (va_Pc [.ref h0, .int u1] (PreW G (tys6 cI cJ cZ cD cR cT) (va_pl L f0) sz)) (QT (po_X4_isAbout kp L f0 h0 u1) G cI cJ cZ cD cR cT (va_A (va_pl L f0) sz) kp L) 0 0 (va_A (va_pl L f0) sz) := by
  refine metT (by decide) (Nat.le_of_ble_eq_true rfl) hTH ?_
  intro p e s m below meth c A ls E hW hl
  obtain ⟨hx, hb, -, hml, hown, hts, -, -, -⟩ := id E
  have hF : FM kp L ms_X4_isAbout f0 f0 := FM.rf
  have hl : lv_has ls 2 [(0, .ref h0), (1, .int u1)] := hl
  refine lv_aload_n hx hb dX4_isAbout_0 rfl (lv_at hl 0 rfl) ?_
  refine fg_RX4_27 E hW rh0 dX4_isAbout_1 (fun a1 m2 r3 => ?_)
  refine lv_iload_n hx hb dX4_isAbout_4 rfl (lv_at hl 1 rfl) ?_
  refine gl_346 E hW r3 ⟨by omega, by omega⟩ dX4_isAbout_5 (fun y4 m5 => ?_)
  have J16 : ∀ (y14 : Int32) (b15 : (0 : Int) ≤ y14.toInt ∧ y14.toInt ≤ 1) (H : Heap) (locs : List Loc) (ls : Array Slot), WS G cI cJ cZ cD cR cT A kp L f0 s H locs → FM kp L ms_X4_isAbout f0 f0 → lv_has ls 2 [(0, .ref h0), (1, .int u1)] → W p l e ({ frames := 1, cells := 0, slots := 0, locals := 40 }) s m ([.ref h0, .int u1] : List Value).toArray below meth c H locs 0 0 (MQ below (QT (po_X4_isAbout kp L f0 h0 u1) G cI cJ cZ cD cR cT A kp L) ([.ref h0, .int u1] : List Value).toArray s 0 0 A) (F0 m 24 ls [.int y14]) := by
    intro y14 b15 H locs ls hW hF hl
    exact e_Z E hW rfl (by omega) ⟨⟨_, rfl, (by first | omega | trivial)⟩, hF⟩ dX4_isAbout_24
  refine q_if_eq (tgt := 19) hx hb dX4_isAbout_6 (by decide) rfl (fun c17 => ?_) (fun c17 => ?_)
  · refine lv_iconst (v := 1) hx hb dX4_isAbout_19 (by decide) ?_
    refine lv_goto (tgt := 24) hx hb dX4_isAbout_20 (by decide) ?_
    exact J16 1 (by decide) _ _ _ hW hF (lv_sub hl [0, 1] rfl)
  · refine lv_aload_n hx hb dX4_isAbout_9 rfl (lv_at hl 0 rfl) ?_
    refine fg_RX4_27 E hW rh0 dX4_isAbout_10 (fun a18 m19 r20 => ?_)
    obtain rfl : a1 = a18 := (m2).symm.trans m19
    refine lv_iload_n hx hb dX4_isAbout_13 rfl (lv_at hl 1 rfl) ?_
    refine gl_346 E hW r3 ⟨by omega, by omega⟩ dX4_isAbout_14 (fun y21 m22 => ?_)
    obtain rfl : y4 = y21 := (m5).symm.trans m22
    refine lv_iconst (v := 1) hx hb dX4_isAbout_15 (by decide) ?_
    refine q_icmp_ne (Y := 1) (tgt := 23) hx hb dX4_isAbout_16 (by decide) rfl rfl (fun c24 => ?_) (fun c24 => ?_)
    · refine lv_iconst (v := 0) hx hb dX4_isAbout_23 (by decide) ?_
      exact J16 0 (by decide) _ _ _ hW hF (lv_sub hl [0, 1] rfl)
    · refine lv_iconst (v := 1) hx hb dX4_isAbout_19 (by decide) ?_
      refine lv_goto (tgt := 24) hx hb dX4_isAbout_20 (by decide) ?_
      exact J16 1 (by decide) _ _ _ hW hF (lv_sub hl [0, 1] rfl)
def ms_X4_keepsBan : List (Nat × Nat) := []
def po_X4_keepsBan (kp : Nat → Nat) (L : List Nat) (f0 : Nat → va_E) (h0 : Nat) (u1 : Int32) (u2 : Int32) (u3 : Int32) : Option Value → (Nat → va_E) → Prop := fun v f => (∃ r : Int32, v = some (.int r) ∧ ((0 : Int) ≤ r.toInt ∧ r.toInt ≤ 1)) ∧ FM kp L ms_X4_keepsBan f0 f
set_option maxHeartbeats 4000000 in
set_option maxRecDepth 100000 in
theorem c_X4_keepsBan (l : Launch) (G : va_G) (cI cJ cZ cD cR cT : ClassId) (kp : Nat → Nat) (L : List Nat) (f0 : Nat → va_E) (hTH : TH cI cJ cZ cD cR cT kp L f0) (sz : Nat) (h0 : Nat) (u1 : Int32) (u2 : Int32) (u3 : Int32) (rh0 : RK kp L h0 4) (pu1 : (0 : Int) ≤ u1.toInt ∧ u1.toInt ≤ 39) (pu2 : (0 : Int) ≤ u2.toInt ∧ u2.toInt ≤ 39) : Met l yX4_keepsBan (Cond.code yX4_keepsBan cX4_keepsBan 6 (some .boolean) :: wTab) ({ frames := 2, cells := 0, slots := 0, locals := 61 }) (va_Pc [.ref h0, .int u1, .int u2, .int u3] (PreW G (tys6 cI cJ cZ cD cR cT) (va_pl L f0) sz)) (QT (po_X4_keepsBan kp L f0 h0 u1 u2 u3) G cI cJ cZ cD cR cT (va_A (va_pl L f0) sz) kp L) 0 0 (va_A (va_pl L f0) sz) := by
  refine metT (by decide) (Nat.le_of_ble_eq_true rfl) hTH ?_
  intro p e s m below meth c A ls E hW hl
  obtain ⟨hx, hb, -, hml, hown, hts, -, -, -⟩ := id E
  have hF : FM kp L ms_X4_keepsBan f0 f0 := FM.rf
  have hl : lv_has ls 6 [(0, .ref h0), (1, .int u1), (2, .int u2), (3, .int u3)] := hl
  refine lv_aload_n hx hb dX4_keepsBan_0 rfl (lv_at hl 0 rfl) ?_
  refine fg_RX4_9 E hW rh0 dX4_keepsBan_1 (fun a1 m2 r3 => ?_)
  refine lv_iload_n hx hb dX4_keepsBan_4 rfl (lv_at hl 1 rfl) ?_
  refine gl_341 E hW r3 ⟨by omega, by omega⟩ dX4_keepsBan_5 (fun y4 m5 => ?_)
  refine lv_aload_n hx hb dX4_keepsBan_6 rfl (lv_at hl 0 rfl) ?_
  refine fg_RX4_9 E hW rh0 dX4_keepsBan_7 (fun a7 m8 r9 => ?_)
  obtain rfl : a1 = a7 := (m2).symm.trans m8
  refine lv_iload_n hx hb dX4_keepsBan_10 rfl (lv_at hl 2 rfl) ?_
  refine gl_341 E hW r3 ⟨by omega, by omega⟩ dX4_keepsBan_11 (fun y10 m11 => ?_)
  refine q_icmp_ne (tgt := 17) hx hb dX4_keepsBan_12 (by decide) rfl rfl (fun c13 => ?_) (fun c13 => ?_)
  · refine lv_iload_n hx hb dX4_keepsBan_17 rfl (lv_at hl 1 rfl) ?_
    refine lv_istore (lv' := [(4, .int u1), (0, .ref h0), (1, .int u1), (2, .int u2), (3, .int u3)]) hx hb dX4_keepsBan_18 hl (by decide) rfl (fun ls hl => ?_)
    refine lv_iconst (v := 0) hx hb dX4_keepsBan_20 (by decide) ?_
    refine lv_istore (lv' := [(5, .int 0), (4, .int u1), (0, .ref h0), (1, .int u1), (2, .int u2), (3, .int u3)]) hx hb dX4_keepsBan_21 hl (by decide) rfl (fun ls hl => ?_)
    have L690 : ∀ (n : Nat), ∀ (f684 : Nat → va_E) (y686 : Int32) (y688 : Int32) (m685 : oR (f684 h0) 1 = a1) (b687 : (0 : Int) ≤ y686.toInt ∧ y686.toInt ≤ 41) (b689 : (-1 : Int) ≤ y688.toInt ∧ y688.toInt ≤ 39) (hm : (42 : Int) - y686.toInt ≤ n) (H : Heap) (locs : List Loc) (ls : Array Slot), WS G cI cJ cZ cD cR cT A kp L f684 s H locs → FM kp L ms_X4_keepsBan f0 f684 → lv_has ls 6 [(5, .int y686), (4, .int y688), (0, .ref h0), (1, .int u1), (2, .int u2), (3, .int u3)] → W p l e ({ frames := 2, cells := 0, slots := 0, locals := 61 }) s m ([.ref h0, .int u1, .int u2, .int u3] : List Value).toArray below meth c H locs 0 0 (MQ below (QT (po_X4_keepsBan kp L f0 h0 u1 u2 u3) G cI cJ cZ cD cR cT A kp L) ([.ref h0, .int u1, .int u2, .int u3] : List Value).toArray s 0 0 A) (F0 m 23 ls []) := by
      intro n
      induction n with
      | zero =>
        intro f684 y686 y688 m685 b687 b689 hm H locs ls hW hF hl
        have hz := i32_b y686
        exfalso; omega
      | succ n ih =>
        intro f684 y686 y688 m685 b687 b689 hm H locs ls hW hF hl
        clear c13
        have ih23 := ih
        refine lv_iload hx hb dX4_keepsBan_23 (lv_at hl 0 rfl) ?_
        refine lv_bipush (v := 40) hx hb dX4_keepsBan_25 (by decide) ?_
        refine q_icmp_gt (Y := 40) (tgt := 67) hx hb dX4_keepsBan_27 (by decide) rfl rfl (fun c691 => ?_) (fun c691 => ?_)
        · refine lv_iconst (v := 0) hx hb dX4_keepsBan_67 (by decide) ?_
          exact e_Z E hW rfl (by decide) ⟨⟨_, rfl, (by have hk : (0 : Int32).toInt = 0 := rfl; first | decide | omega)⟩, hF⟩ dX4_keepsBan_68
        · refine lv_aload_n hx hb dX4_keepsBan_30 rfl (lv_at hl 2 rfl) ?_
          refine lv_iload hx hb dX4_keepsBan_31 (lv_at hl 1 rfl) ?_
          refine t_callV (As := [.int y688]) (rest := []) E hW (c_X4_has l G cI cJ cZ cD cR cT kp L f684 hW.2.2.2 _ h0 y688 rh0) rh0 (by decide) rfl wk_X4_has tw_1188 rfl ⟨Nat.le_of_ble_eq_true rfl, Nat.le_of_ble_eq_true rfl⟩ ⟨rfl, rfl⟩ hl.1 rfl (Nat.le_of_ble_eq_true rfl) dX4_keepsBan_33 ⟨Nat.le_of_ble_eq_true rfl, Nat.le_of_ble_eq_true rfl⟩ (fun v692 f693 H locs q694 hW => ?_)
          obtain ⟨⟨x696, rfl, p697⟩, g695⟩ := q694
          have hF := FM.tr hF g695 rfl
          refine q_if_eq (tgt := 67) hx hb dX4_keepsBan_36 (by decide) rfl (fun c698 => ?_) (fun c698 => ?_)
          · clear p697
            refine lv_iconst (v := 0) hx hb dX4_keepsBan_67 (by decide) ?_
            exact e_Z E hW rfl (by decide) ⟨⟨_, rfl, (by have hk : (0 : Int32).toInt = 0 := rfl; first | decide | omega)⟩, hF⟩ dX4_keepsBan_68
          · have q699 : 0 ≤ y688.toInt ∧ y688.toInt ≤ 39 := by omega
            clear p697
            refine lv_aload_n hx hb dX4_keepsBan_39 rfl (lv_at hl 2 rfl) ?_
            refine fg_RX4_18 E hW rh0 dX4_keepsBan_40 (fun a700 m701 r702 => ?_)
            refine lv_iload hx hb dX4_keepsBan_43 (lv_at hl 1 rfl) ?_
            refine gl_343 E hW r702 ⟨by omega, by omega⟩ dX4_keepsBan_45 (fun y703 m704 => ?_)
            refine lv_iload_n hx hb dX4_keepsBan_46 rfl (lv_at hl 5 rfl) ?_
            refine q_icmp_lt (tgt := 52) hx hb dX4_keepsBan_47 (by decide) rfl rfl (fun c706 => ?_) (fun c706 => ?_)
            · have hb707 : y703.toInt ≤ 2147483646 := by have := i32_b u3; omega
              have hb708 : -2147483647 ≤ u3.toInt := by have := i32_b y703; omega
              refine lv_aload_n hx hb dX4_keepsBan_52 rfl (lv_at hl 2 rfl) ?_
              refine fg_RX4_21 E hW rh0 dX4_keepsBan_53 (fun a709 m710 r711 => ?_)
              refine lv_iload hx hb dX4_keepsBan_56 (lv_at hl 1 rfl) ?_
              refine gl_344 E hW r711 ⟨by omega, by omega⟩ dX4_keepsBan_58 (fun y712 m713 b714 => ?_)
              refine lv_istore (lv' := [(4, .int y712), (5, .int y686), (0, .ref h0), (1, .int u1), (2, .int u2), (3, .int u3)]) hx hb dX4_keepsBan_59 hl (by decide) rfl (fun ls hl => ?_)
              refine q_iinc hx hb dX4_keepsBan_61 hl (k := 1) rfl rfl rfl (by omega) (by decide) (fun i715 ls h716 hl => ?_)
              have hl : lv_has ls 6 [(5, .int i715), (4, .int y712), (0, .ref h0), (1, .int u1), (2, .int u2), (3, .int u3)] := hl
              refine lv_goto (tgt := 23) hx hb dX4_keepsBan_64 (by decide) ?_
              exact ih23 f693 i715 y712 ((fm_R g695 rh0 rfl).trans m685) (by omega) (by omega) (by omega) _ _ _ hW hF (lv_sub hl [0, 1, 2, 3, 4, 5] rfl)
            · refine lv_iconst (v := 1) hx hb dX4_keepsBan_50 (by decide) ?_
              exact e_Z E hW rfl (by decide) ⟨⟨_, rfl, (by have hk : (1 : Int32).toInt = 1 := rfl; first | decide | omega)⟩, hF⟩ dX4_keepsBan_51
    have hk717 : (0 : Int32).toInt = 0 := rfl
    exact L690 42 f0 0 u1 m8 (by decide) (by omega) (by omega) _ _ _ hW hF (lv_sub hl [0, 1, 2, 3, 4, 5] rfl)
  · refine lv_iconst (v := 0) hx hb dX4_keepsBan_15 (by decide) ?_
    exact e_Z E hW rfl (by decide) ⟨⟨_, rfl, (by have hk : (0 : Int32).toInt = 0 := rfl; first | decide | omega)⟩, hF⟩ dX4_keepsBan_16
def ms_X4_kinOf : List (Nat × Nat) := []
def po_X4_kinOf (kp : Nat → Nat) (L : List Nat) (f0 : Nat → va_E) (h0 : Nat) (u1 : Int32) : Option Value → (Nat → va_E) → Prop := fun v f => (∃ r : Int32, v = some (.int r) ∧ (True)) ∧ FM kp L ms_X4_kinOf f0 f
set_option maxHeartbeats 4000000 in
set_option maxRecDepth 100000 in
theorem c_X4_kinOf (l : Launch) (G : va_G) (cI cJ cZ cD cR cT : ClassId) (kp : Nat → Nat) (L : List Nat) (f0 : Nat → va_E) (hTH : TH cI cJ cZ cD cR cT kp L f0) (sz : Nat) (h0 : Nat) (u1 : Int32) (rh0 : RK kp L h0 4) (pu1 : (0 : Int) ≤ u1.toInt ∧ u1.toInt ≤ 39) : Met l yX4_kinOf (Cond.code yX4_kinOf cX4_kinOf 4 (some .int) :: wTab) ({ frames := 1, cells := 0, slots := 0, locals := 40 }) (va_Pc [.ref h0, .int u1] (PreW G (tys6 cI cJ cZ cD cR cT) (va_pl L f0) sz)) (QT (po_X4_kinOf kp L f0 h0 u1) G cI cJ cZ cD cR cT (va_A (va_pl L f0) sz) kp L) 0 0 (va_A (va_pl L f0) sz) := by
  refine metT (by decide) (Nat.le_of_ble_eq_true rfl) hTH ?_
  intro p e s m below meth c A ls E hW hl
  obtain ⟨hx, hb, -, hml, hown, hts, -, -, -⟩ := id E
  have hF : FM kp L ms_X4_kinOf f0 f0 := FM.rf
  have hl : lv_has ls 4 [(0, .ref h0), (1, .int u1)] := hl
  refine lv_iconst (v := 0) hx hb dX4_kinOf_0 (by decide) ?_
  refine lv_istore_n (lv' := [(2, .int 0), (0, .ref h0), (1, .int u1)]) hx hb dX4_kinOf_1 rfl hl (by decide) rfl (fun ls hl => ?_)
  refine lv_iconst (v := 0) hx hb dX4_kinOf_2 (by decide) ?_
  refine lv_istore_n (lv' := [(3, .int 0), (2, .int 0), (0, .ref h0), (1, .int u1)]) hx hb dX4_kinOf_3 rfl hl (by decide) rfl (fun ls hl => ?_)
  have L3651 : ∀ (n : Nat), ∀ (y3648 : Int32) (y3650 : Int32) (b3649 : (0 : Int) ≤ y3648.toInt ∧ y3648.toInt ≤ 40) (hm : (41 : Int) - y3648.toInt ≤ n) (H : Heap) (locs : List Loc) (ls : Array Slot), WS G cI cJ cZ cD cR cT A kp L f0 s H locs → FM kp L ms_X4_kinOf f0 f0 → lv_has ls 4 [(3, .int y3648), (2, .int y3650), (0, .ref h0), (1, .int u1)] → W p l e ({ frames := 1, cells := 0, slots := 0, locals := 40 }) s m ([.ref h0, .int u1] : List Value).toArray below meth c H locs 0 0 (MQ below (QT (po_X4_kinOf kp L f0 h0 u1) G cI cJ cZ cD cR cT A kp L) ([.ref h0, .int u1] : List Value).toArray s 0 0 A) (F0 m 4 ls []) := by
    intro n
    induction n with
    | zero =>
      intro y3648 y3650 b3649 hm H locs ls hW hF hl
      have hz := i32_b y3648
      exfalso; omega
    | succ n ih =>
      intro y3648 y3650 b3649 hm H locs ls hW hF hl
      have ih4 := ih
      refine lv_iload_n hx hb dX4_kinOf_4 rfl (lv_at hl 0 rfl) ?_
      refine lv_aload_n hx hb dX4_kinOf_5 rfl (lv_at hl 2 rfl) ?_
      refine fg_RX4_39 E hW rh0 dX4_kinOf_6 (fun y3652 m3653 b3654 => ?_)
      refine q_icmp_ge (tgt := 50) hx hb dX4_kinOf_9 (by decide) rfl rfl (fun c3702 => ?_) (fun c3702 => ?_)
      · refine lv_iload_n hx hb dX4_kinOf_50 rfl (lv_at hl 1 rfl) ?_
        exact e_I E hW rfl ⟨⟨_, rfl, trivial⟩, hF⟩ dX4_kinOf_51
      · refine lv_iload_n hx hb dX4_kinOf_12 rfl (lv_at hl 0 rfl) ?_
        refine lv_iload_n hx hb dX4_kinOf_13 rfl (lv_at hl 3 rfl) ?_
        have J3725 : ∀ (y3724 : Int32) (H : Heap) (locs : List Loc) (ls : Array Slot), WS G cI cJ cZ cD cR cT A kp L f0 s H locs → FM kp L ms_X4_kinOf f0 f0 → lv_has ls 4 [(3, .int y3648), (2, .int y3724), (0, .ref h0), (1, .int u1)] → W p l e ({ frames := 1, cells := 0, slots := 0, locals := 40 }) s m ([.ref h0, .int u1] : List Value).toArray below meth c H locs 0 0 (MQ below (QT (po_X4_kinOf kp L f0 h0 u1) G cI cJ cZ cD cR cT A kp L) ([.ref h0, .int u1] : List Value).toArray s 0 0 A) (F0 m 44 ls []) := by
          intro y3724 H locs ls hW hF hl
          refine q_iinc hx hb dX4_kinOf_44 hl (k := 0) rfl rfl rfl (by omega) (by decide) (fun i3726 ls h3727 hl => ?_)
          have hl : lv_has ls 4 [(3, .int i3726), (2, .int y3724), (0, .ref h0), (1, .int u1)] := hl
          refine lv_goto (tgt := 4) hx hb dX4_kinOf_47 (by decide) ?_
          exact ih4 i3726 y3724 (by omega) (by omega) _ _ _ hW hF (lv_sub hl [0, 1, 2, 3] rfl)
        refine q_icmp_eq (tgt := 44) hx hb dX4_kinOf_14 (by decide) rfl rfl (fun c3728 => ?_) (fun c3728 => ?_)
        · exact J3725 y3650  _ _ _ hW hF (lv_sub hl [0, 1, 2, 3] rfl)
        · refine lv_aload_n hx hb dX4_kinOf_17 rfl (lv_at hl 2 rfl) ?_
          refine fg_RX4_9 E hW rh0 dX4_kinOf_18 (fun a3729 m3730 r3731 => ?_)
          refine lv_iload_n hx hb dX4_kinOf_21 rfl (lv_at hl 0 rfl) ?_
          refine gl_341 E hW r3731 ⟨by omega, by omega⟩ dX4_kinOf_22 (fun y3732 m3733 => ?_)
          refine lv_aload_n hx hb dX4_kinOf_23 rfl (lv_at hl 2 rfl) ?_
          refine fg_RX4_9 E hW rh0 dX4_kinOf_24 (fun a3735 m3736 r3737 => ?_)
          obtain rfl : a3729 = a3735 := (m3730).symm.trans m3736
          refine lv_iload_n hx hb dX4_kinOf_27 rfl (lv_at hl 3 rfl) ?_
          refine gl_341 E hW r3731 ⟨by omega, by omega⟩ dX4_kinOf_28 (fun y3738 m3739 => ?_)
          refine q_icmp_ne (tgt := 44) hx hb dX4_kinOf_29 (by decide) rfl rfl (fun c3741 => ?_) (fun c3741 => ?_)
          · exact J3725 y3650  _ _ _ hW hF (lv_sub hl [0, 1, 2, 3] rfl)
          · refine lv_aload_n hx hb dX4_kinOf_32 rfl (lv_at hl 2 rfl) ?_
            refine fg_RX4_27 E hW rh0 dX4_kinOf_33 (fun a3742 m3743 r3744 => ?_)
            refine lv_iload_n hx hb dX4_kinOf_36 rfl (lv_at hl 0 rfl) ?_
            refine gl_346 E hW r3744 ⟨by omega, by omega⟩ dX4_kinOf_37 (fun y3745 m3746 => ?_)
            refine q_if_ne (tgt := 44) hx hb dX4_kinOf_38 (by decide) rfl (fun c3748 => ?_) (fun c3748 => ?_)
            · exact J3725 y3650  _ _ _ hW hF (lv_sub hl [0, 1, 2, 3] rfl)
            · refine u_iinc hx hb dX4_kinOf_41 hl (k := 1) rfl (by decide) (fun i3749 ls hl => ?_)
              have hl : lv_has ls 4 [(2, .int i3749), (3, .int y3648), (0, .ref h0), (1, .int u1)] := hl
              exact J3725 i3749  _ _ _ hW hF (lv_sub hl [1, 0, 2, 3] rfl)
  have hk3750 : (0 : Int32).toInt = 0 := rfl
  have hk3751 : (0 : Int32).toInt = 0 := rfl
  exact L3651 41 0 0 (by decide) (by omega) _ _ _ hW hF (lv_sub hl [0, 1, 2, 3] rfl)
def ms_X4_maySell : List (Nat × Nat) := []
def po_X4_maySell (kp : Nat → Nat) (L : List Nat) (f0 : Nat → va_E) (h0 : Nat) (u1 : Int32) (u2 : Int32) (u3 : Int32) (u4 : Int32) : Option Value → (Nat → va_E) → Prop := fun v f => (∃ r : Int32, v = some (.int r) ∧ ((0 : Int) ≤ r.toInt ∧ r.toInt ≤ 1)) ∧ FM kp L ms_X4_maySell f0 f
set_option maxHeartbeats 4000000 in
set_option maxRecDepth 100000 in
theorem c_X4_maySell (l : Launch) (G : va_G) (cI cJ cZ cD cR cT : ClassId) (kp : Nat → Nat) (L : List Nat) (f0 : Nat → va_E) (hTH : TH cI cJ cZ cD cR cT kp L f0) (sz : Nat) (h0 : Nat) (u1 : Int32) (u2 : Int32) (u3 : Int32) (u4 : Int32) (rh0 : RK kp L h0 4) (pu1 : (0 : Int) ≤ u1.toInt ∧ u1.toInt ≤ 39) (pu2 : (0 : Int) ≤ u2.toInt ∧ u2.toInt ≤ 39) (pu3 : (1 : Int) ≤ u3.toInt ∧ u3.toInt ≤ 10000) : Met l yX4_maySell (Cond.code yX4_maySell cX4_maySell 5 (some .boolean) :: wTab) ({ frames := 3, cells := 0, slots := 0, locals := 86 }) (va_Pc [.ref h0, .int u1, .int u2, .int u3, .int u4] (PreW G (tys6 cI cJ cZ cD cR cT) (va_pl L f0) sz)) (QT (po_X4_maySell kp L f0 h0 u1 u2 u3 u4) G cI cJ cZ cD cR cT (va_A (va_pl L f0) sz) kp L) 0 0 (va_A (va_pl L f0) sz) := by
  refine metT (by decide) (Nat.le_of_ble_eq_true rfl) hTH ?_
  intro p e s m below meth c A ls E hW hl
  obtain ⟨hx, hb, -, hml, hown, hts, -, -, -⟩ := id E
  have hF : FM kp L ms_X4_maySell f0 f0 := FM.rf
  have hl : lv_has ls 5 [(0, .ref h0), (1, .int u1), (2, .int u2), (3, .int u3), (4, .int u4)] := hl
  refine lv_iload_n hx hb dX4_maySell_0 rfl (lv_at hl 1 rfl) ?_
  refine lv_iload_n hx hb dX4_maySell_1 rfl (lv_at hl 2 rfl) ?_
  have J25 : ∀ (f22 : Nat → va_E) (y23 : Int32) (b24 : (0 : Int) ≤ y23.toInt ∧ y23.toInt ≤ 1) (H : Heap) (locs : List Loc) (ls : Array Slot), WS G cI cJ cZ cD cR cT A kp L f22 s H locs → FM kp L ms_X4_maySell f0 f22 → lv_has ls 5 [(0, .ref h0), (1, .int u1), (2, .int u2), (3, .int u3), (4, .int u4)] → W p l e ({ frames := 3, cells := 0, slots := 0, locals := 86 }) s m ([.ref h0, .int u1, .int u2, .int u3, .int u4] : List Value).toArray below meth c H locs 0 0 (MQ below (QT (po_X4_maySell kp L f0 h0 u1 u2 u3 u4) G cI cJ cZ cD cR cT A kp L) ([.ref h0, .int u1, .int u2, .int u3, .int u4] : List Value).toArray s 0 0 A) (F0 m 39 ls [.int y23]) := by
    intro f22 y23 b24 H locs ls hW hF hl
    exact e_Z E hW rfl (by omega) ⟨⟨_, rfl, (by first | omega | trivial)⟩, hF⟩ dX4_maySell_39
  refine q_icmp_eq (tgt := 38) hx hb dX4_maySell_2 (by decide) rfl rfl (fun c26 => ?_) (fun c26 => ?_)
  · refine lv_iconst (v := 0) hx hb dX4_maySell_38 (by decide) ?_
    exact J25 f0 0 (by decide) _ _ _ hW hF (lv_sub hl [0, 1, 2, 3, 4] rfl)
  · refine lv_aload_n hx hb dX4_maySell_5 rfl (lv_at hl 0 rfl) ?_
    refine lv_iload_n hx hb dX4_maySell_6 rfl (lv_at hl 1 rfl) ?_
    refine t_callV (As := [.int u1]) (rest := []) E hW (c_X4_isAbout l G cI cJ cZ cD cR cT kp L f0 hW.2.2.2 _ h0 u1 rh0 (by omega)) rh0 (by decide) rfl wk_X4_isAbout tw_1205 rfl ⟨Nat.le_of_ble_eq_true rfl, Nat.le_of_ble_eq_true rfl⟩ ⟨rfl, rfl⟩ hl.1 rfl (Nat.le_of_ble_eq_true rfl) dX4_maySell_7 ⟨Nat.le_of_ble_eq_true rfl, Nat.le_of_ble_eq_true rfl⟩ (fun v27 f28 H locs q29 hW => ?_)
    obtain ⟨⟨x31, rfl, p32⟩, g30⟩ := q29
    have hF := FM.tr hF g30 rfl
    refine q_if_eq (tgt := 38) hx hb dX4_maySell_10 (by decide) rfl (fun c33 => ?_) (fun c33 => ?_)
    · refine lv_iconst (v := 0) hx hb dX4_maySell_38 (by decide) ?_
      exact J25 f28 0 (by decide) _ _ _ hW hF (lv_sub hl [0, 1, 2, 3, 4] rfl)
    · refine lv_aload_n hx hb dX4_maySell_13 rfl (lv_at hl 0 rfl) ?_
      refine fg_RX4_15 E hW rh0 dX4_maySell_14 (fun a34 m35 r36 => ?_)
      refine lv_iload_n hx hb dX4_maySell_17 rfl (lv_at hl 1 rfl) ?_
      refine gl_342 E hW r36 ⟨by omega, by omega⟩ dX4_maySell_18 (fun y37 m38 => ?_)
      refine lv_iload_n hx hb dX4_maySell_19 rfl (lv_at hl 3 rfl) ?_
      refine q_icmp_lt (tgt := 38) hx hb dX4_maySell_20 (by decide) rfl rfl (fun c40 => ?_) (fun c40 => ?_)
      · refine lv_iconst (v := 0) hx hb dX4_maySell_38 (by decide) ?_
        exact J25 f28 0 (by decide) _ _ _ hW hF (lv_sub hl [0, 1, 2, 3, 4] rfl)
      · refine lv_aload_n hx hb dX4_maySell_23 rfl (lv_at hl 0 rfl) ?_
        refine lv_iload_n hx hb dX4_maySell_24 rfl (lv_at hl 1 rfl) ?_
        refine lv_iload_n hx hb dX4_maySell_25 rfl (lv_at hl 2 rfl) ?_
        refine lv_iload hx hb dX4_maySell_26 (lv_at hl 4 rfl) ?_
        refine t_callV (As := [.int u1, .int u2, .int u4]) (rest := []) E hW (c_X4_keepsBan l G cI cJ cZ cD cR cT kp L f28 hW.2.2.2 _ h0 u1 u2 u4 rh0 (by omega) (by omega)) rh0 (by decide) rfl wk_X4_keepsBan tw_1206 rfl ⟨Nat.le_of_ble_eq_true rfl, Nat.le_of_ble_eq_true rfl⟩ ⟨rfl, rfl⟩ hl.1 rfl (Nat.le_of_ble_eq_true rfl) dX4_maySell_28 ⟨Nat.le_of_ble_eq_true rfl, Nat.le_of_ble_eq_true rfl⟩ (fun v41 f42 H locs q43 hW => ?_)
        obtain ⟨⟨x45, rfl, p46⟩, g44⟩ := q43
        have hF := FM.tr hF g44 rfl
        refine q_if_ne (tgt := 38) hx hb dX4_maySell_31 (by decide) rfl (fun c47 => ?_) (fun c47 => ?_)
        · refine lv_iconst (v := 0) hx hb dX4_maySell_38 (by decide) ?_
          exact J25 f42 0 (by decide) _ _ _ hW hF (lv_sub hl [0, 1, 2, 3, 4] rfl)
        · refine lv_iconst (v := 1) hx hb dX4_maySell_34 (by decide) ?_
          refine lv_goto (tgt := 39) hx hb dX4_maySell_35 (by decide) ?_
          exact J25 f42 1 (by decide) _ _ _ hW hF (lv_sub hl [0, 1, 2, 3, 4] rfl)
def ms_X1_addEstate : List (Nat × Nat) := [(1, 8), (169, 0), (170, 0), (171, 0)]
def po_X1_addEstate (kp : Nat → Nat) (L : List Nat) (f0 : Nat → va_E) (h0 : Nat) (u1 : Int32) (u2 : Int32) : Option Value → (Nat → va_E) → Prop := fun v f => (∃ r : Int32, v = some (.int r) ∧ ((-1 : Int) ≤ r.toInt ∧ r.toInt ≤ 7)) ∧ FM kp L ms_X1_addEstate f0 f
set_option maxHeartbeats 4000000 in
set_option maxRecDepth 100000 in
theorem c_X1_addEstate (l : Launch) (G : va_G) (cI cJ cZ cD cR cT : ClassId) (kp : Nat → Nat) (L : List Nat) (f0 : Nat → va_E) (hTH : TH cI cJ cZ cD cR cT kp L f0) (sz : Nat) (h0 : Nat) (u1 : Int32) (u2 : Int32) (rh0 : RK kp L h0 1) (pu1 : (0 : Int) ≤ u1.toInt ∧ u1.toInt ≤ 10000000) (pu2 : (0 : Int) ≤ u2.toInt ∧ u2.toInt ≤ 1000000) : Met l yX1_addEstate (Cond.code yX1_addEstate cX1_addEstate 4 (some .int) :: wTab) ({ frames := 1, cells := 0, slots := 0, locals := 40 }) (va_Pc [.ref h0, .int u1, .int u2] (PreW G (tys6 cI cJ cZ cD cR cT) (va_pl L f0) sz)) (QT (po_X1_addEstate kp L f0 h0 u1 u2) G cI cJ cZ cD cR cT (va_A (va_pl L f0) sz) kp L) 0 0 (va_A (va_pl L f0) sz) := by
  refine metT (by decide) (Nat.le_of_ble_eq_true rfl) hTH ?_
  intro p e s m below meth c A ls E hW hl
  obtain ⟨hx, hb, -, hml, hown, hts, -, -, -⟩ := id E
  have hF : FM kp L ms_X1_addEstate f0 f0 := FM.rf
  have hl : lv_has ls 4 [(0, .ref h0), (1, .int u1), (2, .int u2)] := hl
  refine lv_aload_n hx hb dX1_addEstate_0 rfl (lv_at hl 0 rfl) ?_
  refine fg_RX1_49 E hW rh0 dX1_addEstate_1 (fun y1 m2 b3 => ?_)
  refine lv_bipush (v := 8) hx hb dX1_addEstate_4 (by decide) ?_
  refine q_icmp_lt (Y := 8) (tgt := 11) hx hb dX1_addEstate_6 (by decide) rfl rfl (fun c4 => ?_) (fun c4 => ?_)
  · refine lv_aload_n hx hb dX1_addEstate_11 rfl (lv_at hl 0 rfl) ?_
    refine fg_RX1_49 E hW rh0 dX1_addEstate_12 (fun y5 m6 b7 => ?_)
    obtain rfl : y1 = y5 := (m2).symm.trans m6
    refine lv_istore_n (lv' := [(3, .int y1), (0, .ref h0), (1, .int u1), (2, .int u2)]) hx hb dX1_addEstate_15 rfl hl (by decide) rfl (fun ls hl => ?_)
    refine lv_aload_n hx hb dX1_addEstate_16 rfl (lv_at hl 1 rfl) ?_
    refine fg_RX1_33 E hW rh0 dX1_addEstate_17 (fun a8 m9 r10 => ?_)
    refine lv_iload_n hx hb dX1_addEstate_20 rfl (lv_at hl 0 rfl) ?_
    refine lv_iload_n hx hb dX1_addEstate_21 rfl (lv_at hl 2 rfl) ?_
    refine gs_169 E hW r10 ⟨by omega, by omega⟩ dX1_addEstate_22 (fun f11 H locs e12 n13 g14 hW => ?_)
    have hF := FM.tr hF g14 rfl
    refine lv_aload_n hx hb dX1_addEstate_23 rfl (lv_at hl 1 rfl) ?_
    refine fg_RX1_36 E hW rh0 dX1_addEstate_24 (fun a15 m16 r17 => ?_)
    refine lv_iload_n hx hb dX1_addEstate_27 rfl (lv_at hl 0 rfl) ?_
    refine lv_iload_n hx hb dX1_addEstate_28 rfl (lv_at hl 3 rfl) ?_
    refine gs_170 E hW r17 ⟨by omega, by omega⟩ dX1_addEstate_29 (fun f18 H locs e19 n20 g21 hW => ?_)
    have hF := FM.tr hF g21 rfl
    refine lv_aload_n hx hb dX1_addEstate_30 rfl (lv_at hl 1 rfl) ?_
    refine fg_RX1_39 E hW rh0 dX1_addEstate_31 (fun a22 m23 r24 => ?_)
    refine lv_iload_n hx hb dX1_addEstate_34 rfl (lv_at hl 0 rfl) ?_
    refine lv_iconst (v := (-1)) hx hb dX1_addEstate_35 (by decide) ?_
    refine gs_171 E hW r24 ⟨by omega, by omega⟩ dX1_addEstate_36 (fun f25 H locs e26 n27 g28 hW => ?_)
    have hF := FM.tr hF g28 rfl
    refine lv_aload_n hx hb dX1_addEstate_37 rfl (lv_at hl 1 rfl) ?_
    refine lv_dup hx hb dX1_addEstate_38 rfl ?_
    refine fg_RX1_49 E hW rh0 dX1_addEstate_39 (fun y29 m30 b31 => ?_)
    obtain rfl : y1 = y29 := (((fm_I g28 rh0 rfl).trans ((fm_I g21 rh0 rfl).trans ((fm_I g14 rh0 rfl).trans m6)))).symm.trans m30
    refine lv_iconst (v := 1) hx hb dX1_addEstate_42 (by decide) ?_
    refine q_iadd (Y := 1) hx hb dX1_addEstate_43 rfl rfl (by omega) (fun x32 h33 => ?_)
    refine fp_RX1_49 E hW rh0 (by omega) dX1_addEstate_44 (fun f34 H locs e35 n36 g37 hW => ?_)
    have hF := FM.tr hF g37 rfl
    refine lv_iload_n hx hb dX1_addEstate_47 rfl (lv_at hl 0 rfl) ?_
    exact e_I E hW rfl ⟨⟨_, rfl, (by first | omega | trivial)⟩, hF⟩ dX1_addEstate_48
  · refine lv_iconst (v := (-1)) hx hb dX1_addEstate_9 (by decide) ?_
    exact e_I E hW rfl ⟨⟨_, rfl, (by have hk : ((-1) : Int32).toInt = -1 := rfl; first | decide | omega)⟩, hF⟩ dX1_addEstate_10
def ms_X1_addField : List (Nat × Nat) := [(1, 0), (161, 0), (162, 0), (163, 0), (164, 0), (165, 0), (166, 0), (167, 0)]
def po_X1_addField (kp : Nat → Nat) (L : List Nat) (f0 : Nat → va_E) (h0 : Nat) (u1 : Int32) (u2 : Int32) (u3 : Int32) : Option Value → (Nat → va_E) → Prop := fun v f => (∃ r : Int32, v = some (.int r) ∧ ((0 ≤ r.toInt ∨ 40 ≤ (oI (f0 h0) 0).toInt) ∧ -1 ≤ r.toInt ∧ r.toInt ≤ 39)) ∧ FM kp L ms_X1_addField f0 f
set_option maxHeartbeats 4000000 in
set_option maxRecDepth 100000 in
theorem c_X1_addField (l : Launch) (G : va_G) (cI cJ cZ cD cR cT : ClassId) (kp : Nat → Nat) (L : List Nat) (f0 : Nat → va_E) (hTH : TH cI cJ cZ cD cR cT kp L f0) (sz : Nat) (h0 : Nat) (u1 : Int32) (u2 : Int32) (u3 : Int32) (rh0 : RK kp L h0 1) (pu1 : (0 : Int) ≤ u1.toInt ∧ u1.toInt ≤ 7) (pu2 : (1 : Int) ≤ u2.toInt ∧ u2.toInt ≤ 1000) (pu3 : (0 : Int) ≤ u3.toInt ∧ u3.toInt ≤ 100000) : Met l yX1_addField (Cond.code yX1_addField cX1_addField 5 (some .int) :: wTab) ({ frames := 1, cells := 0, slots := 0, locals := 40 }) (va_Pc [.ref h0, .int u1, .int u2, .int u3] (PreW G (tys6 cI cJ cZ cD cR cT) (va_pl L f0) sz)) (QT (po_X1_addField kp L f0 h0 u1 u2 u3) G cI cJ cZ cD cR cT (va_A (va_pl L f0) sz) kp L) 0 0 (va_A (va_pl L f0) sz) := by
  refine metT (by decide) (Nat.le_of_ble_eq_true rfl) hTH ?_
  intro p e s m below meth c A ls E hW hl
  obtain ⟨hx, hb, -, hml, hown, hts, -, -, -⟩ := id E
  have hF : FM kp L ms_X1_addField f0 f0 := FM.rf
  have hl : lv_has ls 5 [(0, .ref h0), (1, .int u1), (2, .int u2), (3, .int u3)] := hl
  refine lv_aload_n hx hb dX1_addField_0 rfl (lv_at hl 0 rfl) ?_
  refine fg_RX1_46 E hW rh0 dX1_addField_1 (fun y1 m2 b3 => ?_)
  refine lv_bipush (v := 40) hx hb dX1_addField_4 (by decide) ?_
  refine q_icmp_lt (Y := 40) (tgt := 11) hx hb dX1_addField_6 (by decide) rfl rfl (fun c4 => ?_) (fun c4 => ?_)
  · refine lv_aload_n hx hb dX1_addField_11 rfl (lv_at hl 0 rfl) ?_
    refine fg_RX1_46 E hW rh0 dX1_addField_12 (fun y5 m6 b7 => ?_)
    obtain rfl : y1 = y5 := (m2).symm.trans m6
    refine lv_istore (lv' := [(4, .int y1), (0, .ref h0), (1, .int u1), (2, .int u2), (3, .int u3)]) hx hb dX1_addField_15 hl (by decide) rfl (fun ls hl => ?_)
    refine lv_aload_n hx hb dX1_addField_17 rfl (lv_at hl 1 rfl) ?_
    refine fg_RX1_9 E hW rh0 dX1_addField_18 (fun a8 m9 r10 => ?_)
    refine lv_iload hx hb dX1_addField_21 (lv_at hl 0 rfl) ?_
    refine lv_iload_n hx hb dX1_addField_23 rfl (lv_at hl 2 rfl) ?_
    refine gs_161 E hW r10 ⟨by omega, by omega⟩ (by omega) dX1_addField_24 (fun f11 H locs e12 n13 g14 hW => ?_)
    have hF := FM.tr hF g14 rfl
    refine lv_aload_n hx hb dX1_addField_25 rfl (lv_at hl 1 rfl) ?_
    refine fg_RX1_15 E hW rh0 dX1_addField_26 (fun a15 m16 r17 => ?_)
    refine lv_iload hx hb dX1_addField_29 (lv_at hl 0 rfl) ?_
    refine lv_iload_n hx hb dX1_addField_31 rfl (lv_at hl 3 rfl) ?_
    refine gs_162 E hW r17 ⟨by omega, by omega⟩ dX1_addField_32 (fun f18 H locs e19 n20 g21 hW => ?_)
    have hF := FM.tr hF g21 rfl
    refine lv_aload_n hx hb dX1_addField_33 rfl (lv_at hl 1 rfl) ?_
    refine fg_RX1_18 E hW rh0 dX1_addField_34 (fun a22 m23 r24 => ?_)
    refine lv_iload hx hb dX1_addField_37 (lv_at hl 0 rfl) ?_
    refine lv_iload_n hx hb dX1_addField_39 rfl (lv_at hl 4 rfl) ?_
    refine gs_163 E hW r24 ⟨by omega, by omega⟩ dX1_addField_40 (fun f25 H locs e26 n27 g28 hW => ?_)
    have hF := FM.tr hF g28 rfl
    refine lv_aload_n hx hb dX1_addField_41 rfl (lv_at hl 1 rfl) ?_
    refine fg_RX1_21 E hW rh0 dX1_addField_42 (fun a29 m30 r31 => ?_)
    refine lv_iload hx hb dX1_addField_45 (lv_at hl 0 rfl) ?_
    refine lv_iconst (v := (-1)) hx hb dX1_addField_47 (by decide) ?_
    refine gs_164 E hW r31 ⟨by omega, by omega⟩ (by decide) dX1_addField_48 (fun f32 H locs e33 n34 g35 hW => ?_)
    have hF := FM.tr hF g35 rfl
    refine lv_aload_n hx hb dX1_addField_49 rfl (lv_at hl 1 rfl) ?_
    refine fg_RX1_24 E hW rh0 dX1_addField_50 (fun a36 m37 r38 => ?_)
    refine lv_iload hx hb dX1_addField_53 (lv_at hl 0 rfl) ?_
    refine lv_iconst (v := 0) hx hb dX1_addField_55 (by decide) ?_
    refine gs_165 E hW r38 ⟨by omega, by omega⟩ dX1_addField_56 (fun f39 H locs e40 n41 g42 hW => ?_)
    have hF := FM.tr hF g42 rfl
    refine lv_aload_n hx hb dX1_addField_57 rfl (lv_at hl 1 rfl) ?_
    refine fg_RX1_27 E hW rh0 dX1_addField_58 (fun a43 m44 r45 => ?_)
    refine lv_iload hx hb dX1_addField_61 (lv_at hl 0 rfl) ?_
    refine lv_iconst (v := 0) hx hb dX1_addField_63 (by decide) ?_
    refine gs_166 E hW r45 ⟨by omega, by omega⟩ dX1_addField_64 (fun f46 H locs e47 n48 g49 hW => ?_)
    have hF := FM.tr hF g49 rfl
    refine lv_aload_n hx hb dX1_addField_65 rfl (lv_at hl 1 rfl) ?_
    refine fg_RX1_30 E hW rh0 dX1_addField_66 (fun a50 m51 r52 => ?_)
    refine lv_iload hx hb dX1_addField_69 (lv_at hl 0 rfl) ?_
    refine lv_iconst (v := 0) hx hb dX1_addField_71 (by decide) ?_
    refine gs_167 E hW r52 ⟨by omega, by omega⟩ dX1_addField_72 (fun f53 H locs e54 n55 g56 hW => ?_)
    have hF := FM.tr hF g56 rfl
    refine lv_aload_n hx hb dX1_addField_73 rfl (lv_at hl 1 rfl) ?_
    refine lv_dup hx hb dX1_addField_74 rfl ?_
    refine fg_RX1_46 E hW rh0 dX1_addField_75 (fun y57 m58 b59 => ?_)
    obtain rfl : y1 = y57 := (((fm_I g56 rh0 rfl).trans ((fm_I g49 rh0 rfl).trans ((fm_I g42 rh0 rfl).trans ((fm_I g35 rh0 rfl).trans ((fm_I g28 rh0 rfl).trans ((fm_I g21 rh0 rfl).trans ((fm_I g14 rh0 rfl).trans m6)))))))).symm.trans m58
    refine lv_iconst (v := 1) hx hb dX1_addField_78 (by decide) ?_
    refine q_iadd (Y := 1) hx hb dX1_addField_79 rfl rfl (by omega) (fun x60 h61 => ?_)
    refine fp_RX1_46 E hW rh0 (by omega) dX1_addField_80 (fun f62 H locs e63 n64 g65 hW => ?_)
    have hF := FM.tr hF g65 rfl
    refine lv_iload hx hb dX1_addField_83 (lv_at hl 0 rfl) ?_
    exact e_I E hW rfl ⟨⟨_, rfl, (by rw [m2]; first | omega | trivial)⟩, hF⟩ dX1_addField_85
  · refine lv_iconst (v := (-1)) hx hb dX1_addField_9 (by decide) ?_
    exact e_I E hW rfl ⟨⟨_, rfl, (by have hk : ((-1) : Int32).toInt = -1 := rfl; rw [m2]; first | decide | omega)⟩, hF⟩ dX1_addField_10
def ms_X1_copyFrom : List (Nat × Nat) := [(1, 0), (1, 8), (1, 12), (1, 13), (1, 14), (161, 0), (162, 0), (163, 0), (164, 0), (165, 0), (166, 0), (167, 0), (169, 0), (170, 0), (171, 0)]
def po_X1_copyFrom (kp : Nat → Nat) (L : List Nat) (f0 : Nat → va_E) (h0 : Nat) (u1 : Nat) : Option Value → (Nat → va_E) → Prop := fun v f => v = none ∧ FM kp L ms_X1_copyFrom f0 f
set_option maxHeartbeats 4000000 in
set_option maxRecDepth 100000 in
theorem c_X1_copyFrom (l : Launch) (G : va_G) (cI cJ cZ cD cR cT : ClassId) (kp : Nat → Nat) (L : List Nat) (f0 : Nat → va_E) (hTH : TH cI cJ cZ cD cR cT kp L f0) (sz : Nat) (h0 : Nat) (u1 : Nat) (rh0 : RK kp L h0 1) (ru1 : RK kp L u1 1) : Met l yX1_copyFrom (Cond.code yX1_copyFrom cX1_copyFrom 2 none :: wTab) ({ frames := 1, cells := 0, slots := 0, locals := 60 }) (va_Pc [.ref h0, .ref u1] (PreW G (tys6 cI cJ cZ cD cR cT) (va_pl L f0) sz)) (QT (po_X1_copyFrom kp L f0 h0 u1) G cI cJ cZ cD cR cT (va_A (va_pl L f0) sz) kp L) 0 0 (va_A (va_pl L f0) sz) := by
  refine metT (by decide) (Nat.le_of_ble_eq_true rfl) hTH ?_
  intro p e s m below meth c A ls E hW hl
  obtain ⟨hx, hb, -, hml, hown, hts, -, -, -⟩ := id E
  have hF : FM kp L ms_X1_copyFrom f0 f0 := FM.rf
  have hl : lv_has ls 2 [(0, .ref h0), (1, .ref u1)] := hl
  refine lv_aload_n hx hb dX1_copyFrom_0 rfl (lv_at hl 0 rfl) ?_
  refine lv_aload_n hx hb dX1_copyFrom_1 rfl (lv_at hl 1 rfl) ?_
  refine fg_RX1_46 E hW ru1 dX1_copyFrom_2 (fun y1 m2 b3 => ?_)
  refine fp_RX1_46 E hW rh0 (by omega) dX1_copyFrom_5 (fun f4 H locs e5 n6 g7 hW => ?_)
  have hF := FM.tr hF g7 rfl
  refine lv_aload_n hx hb dX1_copyFrom_8 rfl (lv_at hl 1 rfl) ?_
  refine fg_RX1_9 E hW ru1 dX1_copyFrom_9 (fun a8 m9 r10 => ?_)
  refine lv_iconst (v := 0) hx hb dX1_copyFrom_12 (by decide) ?_
  refine lv_aload_n hx hb dX1_copyFrom_13 rfl (lv_at hl 0 rfl) ?_
  refine fg_RX1_9 E hW rh0 dX1_copyFrom_14 (fun a11 m12 r13 => ?_)
  refine lv_iconst (v := 0) hx hb dX1_copyFrom_17 (by decide) ?_
  refine lv_bipush (v := 40) hx hb dX1_copyFrom_18 (by decide) ?_
  refine t_copy (N := 40) (n0 := 40) (n1 := 40) E hW tw_1298 ⟨tw_1004, tw_1003, tw_122⟩ hl.1 rfl r10 (by decide) rfl r13 (by decide) rfl rfl (by decide) rfl (by decide) (by decide) (by decide) (fun h0 h1 => AB_cpy h0 h1) ⟨Nat.le_of_ble_eq_true rfl, Nat.le_of_ble_eq_true rfl⟩ dX1_copyFrom_20 (fun f14 H locs n16 g17 hW => ?_)
  have hF := FM.tr hF g17 rfl
  refine lv_aload_n hx hb dX1_copyFrom_23 rfl (lv_at hl 1 rfl) ?_
  refine fg_RX1_15 E hW ru1 dX1_copyFrom_24 (fun a18 m19 r20 => ?_)
  refine lv_iconst (v := 0) hx hb dX1_copyFrom_27 (by decide) ?_
  refine lv_aload_n hx hb dX1_copyFrom_28 rfl (lv_at hl 0 rfl) ?_
  refine fg_RX1_15 E hW rh0 dX1_copyFrom_29 (fun a21 m22 r23 => ?_)
  refine lv_iconst (v := 0) hx hb dX1_copyFrom_32 (by decide) ?_
  refine lv_bipush (v := 40) hx hb dX1_copyFrom_33 (by decide) ?_
  refine t_copy (N := 40) (n0 := 40) (n1 := 40) E hW tw_1298 ⟨tw_1004, tw_1003, tw_122⟩ hl.1 rfl r20 (by decide) rfl r23 (by decide) rfl rfl (by decide) rfl (by decide) (by decide) (by decide) (fun _ _ => trivial) ⟨Nat.le_of_ble_eq_true rfl, Nat.le_of_ble_eq_true rfl⟩ dX1_copyFrom_35 (fun f24 H locs n26 g27 hW => ?_)
  have hF := FM.tr hF g27 rfl
  refine lv_aload_n hx hb dX1_copyFrom_38 rfl (lv_at hl 1 rfl) ?_
  refine fg_RX1_18 E hW ru1 dX1_copyFrom_39 (fun a28 m29 r30 => ?_)
  refine lv_iconst (v := 0) hx hb dX1_copyFrom_42 (by decide) ?_
  refine lv_aload_n hx hb dX1_copyFrom_43 rfl (lv_at hl 0 rfl) ?_
  refine fg_RX1_18 E hW rh0 dX1_copyFrom_44 (fun a31 m32 r33 => ?_)
  refine lv_iconst (v := 0) hx hb dX1_copyFrom_47 (by decide) ?_
  refine lv_bipush (v := 40) hx hb dX1_copyFrom_48 (by decide) ?_
  refine t_copy (N := 40) (n0 := 40) (n1 := 40) E hW tw_1298 ⟨tw_1004, tw_1003, tw_122⟩ hl.1 rfl r30 (by decide) rfl r33 (by decide) rfl rfl (by decide) rfl (by decide) (by decide) (by decide) (fun _ _ => trivial) ⟨Nat.le_of_ble_eq_true rfl, Nat.le_of_ble_eq_true rfl⟩ dX1_copyFrom_50 (fun f34 H locs n36 g37 hW => ?_)
  have hF := FM.tr hF g37 rfl
  refine lv_aload_n hx hb dX1_copyFrom_53 rfl (lv_at hl 1 rfl) ?_
  refine fg_RX1_21 E hW ru1 dX1_copyFrom_54 (fun a38 m39 r40 => ?_)
  refine lv_iconst (v := 0) hx hb dX1_copyFrom_57 (by decide) ?_
  refine lv_aload_n hx hb dX1_copyFrom_58 rfl (lv_at hl 0 rfl) ?_
  refine fg_RX1_21 E hW rh0 dX1_copyFrom_59 (fun a41 m42 r43 => ?_)
  refine lv_iconst (v := 0) hx hb dX1_copyFrom_62 (by decide) ?_
  refine lv_bipush (v := 40) hx hb dX1_copyFrom_63 (by decide) ?_
  refine t_copy (N := 40) (n0 := 40) (n1 := 40) E hW tw_1298 ⟨tw_1004, tw_1003, tw_122⟩ hl.1 rfl r40 (by decide) rfl r43 (by decide) rfl rfl (by decide) rfl (by decide) (by decide) (by decide) (fun h0 h1 => AB_cpy h0 h1) ⟨Nat.le_of_ble_eq_true rfl, Nat.le_of_ble_eq_true rfl⟩ dX1_copyFrom_65 (fun f44 H locs n46 g47 hW => ?_)
  have hF := FM.tr hF g47 rfl
  refine lv_aload_n hx hb dX1_copyFrom_68 rfl (lv_at hl 1 rfl) ?_
  refine fg_RX1_24 E hW ru1 dX1_copyFrom_69 (fun a48 m49 r50 => ?_)
  refine lv_iconst (v := 0) hx hb dX1_copyFrom_72 (by decide) ?_
  refine lv_aload_n hx hb dX1_copyFrom_73 rfl (lv_at hl 0 rfl) ?_
  refine fg_RX1_24 E hW rh0 dX1_copyFrom_74 (fun a51 m52 r53 => ?_)
  refine lv_iconst (v := 0) hx hb dX1_copyFrom_77 (by decide) ?_
  refine lv_bipush (v := 40) hx hb dX1_copyFrom_78 (by decide) ?_
  refine t_copy (N := 40) (n0 := 40) (n1 := 40) E hW tw_1298 ⟨tw_1004, tw_1003, tw_122⟩ hl.1 rfl r50 (by decide) rfl r53 (by decide) rfl rfl (by decide) rfl (by decide) (by decide) (by decide) (fun _ _ => trivial) ⟨Nat.le_of_ble_eq_true rfl, Nat.le_of_ble_eq_true rfl⟩ dX1_copyFrom_80 (fun f54 H locs n56 g57 hW => ?_)
  have hF := FM.tr hF g57 rfl
  refine lv_aload_n hx hb dX1_copyFrom_83 rfl (lv_at hl 1 rfl) ?_
  refine fg_RX1_27 E hW ru1 dX1_copyFrom_84 (fun a58 m59 r60 => ?_)
  refine lv_iconst (v := 0) hx hb dX1_copyFrom_87 (by decide) ?_
  refine lv_aload_n hx hb dX1_copyFrom_88 rfl (lv_at hl 0 rfl) ?_
  refine fg_RX1_27 E hW rh0 dX1_copyFrom_89 (fun a61 m62 r63 => ?_)
  refine lv_iconst (v := 0) hx hb dX1_copyFrom_92 (by decide) ?_
  refine lv_bipush (v := 40) hx hb dX1_copyFrom_93 (by decide) ?_
  refine t_copy (N := 40) (n0 := 40) (n1 := 40) E hW tw_1298 ⟨tw_1004, tw_1003, tw_122⟩ hl.1 rfl r60 (by decide) rfl r63 (by decide) rfl rfl (by decide) rfl (by decide) (by decide) (by decide) (fun _ _ => trivial) ⟨Nat.le_of_ble_eq_true rfl, Nat.le_of_ble_eq_true rfl⟩ dX1_copyFrom_95 (fun f64 H locs n66 g67 hW => ?_)
  have hF := FM.tr hF g67 rfl
  refine lv_aload_n hx hb dX1_copyFrom_98 rfl (lv_at hl 1 rfl) ?_
  refine fg_RX1_30 E hW ru1 dX1_copyFrom_99 (fun a68 m69 r70 => ?_)
  refine lv_iconst (v := 0) hx hb dX1_copyFrom_102 (by decide) ?_
  refine lv_aload_n hx hb dX1_copyFrom_103 rfl (lv_at hl 0 rfl) ?_
  refine fg_RX1_30 E hW rh0 dX1_copyFrom_104 (fun a71 m72 r73 => ?_)
  refine lv_iconst (v := 0) hx hb dX1_copyFrom_107 (by decide) ?_
  refine lv_bipush (v := 40) hx hb dX1_copyFrom_108 (by decide) ?_
  refine t_copy (N := 40) (n0 := 40) (n1 := 40) E hW tw_1298 ⟨tw_1004, tw_1003, tw_122⟩ hl.1 rfl r70 (by decide) rfl r73 (by decide) rfl rfl (by decide) rfl (by decide) (by decide) (by decide) (fun _ _ => trivial) ⟨Nat.le_of_ble_eq_true rfl, Nat.le_of_ble_eq_true rfl⟩ dX1_copyFrom_110 (fun f74 H locs n76 g77 hW => ?_)
  have hF := FM.tr hF g77 rfl
  refine lv_aload_n hx hb dX1_copyFrom_113 rfl (lv_at hl 0 rfl) ?_
  refine lv_aload_n hx hb dX1_copyFrom_114 rfl (lv_at hl 1 rfl) ?_
  refine fg_RX1_49 E hW ru1 dX1_copyFrom_115 (fun y78 m79 b80 => ?_)
  refine fp_RX1_49 E hW rh0 (by omega) dX1_copyFrom_118 (fun f81 H locs e82 n83 g84 hW => ?_)
  have hF := FM.tr hF g84 rfl
  refine lv_aload_n hx hb dX1_copyFrom_121 rfl (lv_at hl 1 rfl) ?_
  refine fg_RX1_33 E hW ru1 dX1_copyFrom_122 (fun a85 m86 r87 => ?_)
  refine lv_iconst (v := 0) hx hb dX1_copyFrom_125 (by decide) ?_
  refine lv_aload_n hx hb dX1_copyFrom_126 rfl (lv_at hl 0 rfl) ?_
  refine fg_RX1_33 E hW rh0 dX1_copyFrom_127 (fun a88 m89 r90 => ?_)
  refine lv_iconst (v := 0) hx hb dX1_copyFrom_130 (by decide) ?_
  refine lv_bipush (v := 8) hx hb dX1_copyFrom_131 (by decide) ?_
  refine t_copy (N := 8) (n0 := 8) (n1 := 8) E hW tw_1298 ⟨tw_1004, tw_1003, tw_122⟩ hl.1 rfl r87 (by decide) rfl r90 (by decide) rfl rfl (by decide) rfl (by decide) (by decide) (by decide) (fun _ _ => trivial) ⟨Nat.le_of_ble_eq_true rfl, Nat.le_of_ble_eq_true rfl⟩ dX1_copyFrom_133 (fun f91 H locs n93 g94 hW => ?_)
  have hF := FM.tr hF g94 rfl
  refine lv_aload_n hx hb dX1_copyFrom_136 rfl (lv_at hl 1 rfl) ?_
  refine fg_RX1_36 E hW ru1 dX1_copyFrom_137 (fun a95 m96 r97 => ?_)
  refine lv_iconst (v := 0) hx hb dX1_copyFrom_140 (by decide) ?_
  refine lv_aload_n hx hb dX1_copyFrom_141 rfl (lv_at hl 0 rfl) ?_
  refine fg_RX1_36 E hW rh0 dX1_copyFrom_142 (fun a98 m99 r100 => ?_)
  refine lv_iconst (v := 0) hx hb dX1_copyFrom_145 (by decide) ?_
  refine lv_bipush (v := 8) hx hb dX1_copyFrom_146 (by decide) ?_
  refine t_copy (N := 8) (n0 := 8) (n1 := 8) E hW tw_1298 ⟨tw_1004, tw_1003, tw_122⟩ hl.1 rfl r97 (by decide) rfl r100 (by decide) rfl rfl (by decide) rfl (by decide) (by decide) (by decide) (fun _ _ => trivial) ⟨Nat.le_of_ble_eq_true rfl, Nat.le_of_ble_eq_true rfl⟩ dX1_copyFrom_148 (fun f101 H locs n103 g104 hW => ?_)
  have hF := FM.tr hF g104 rfl
  refine lv_aload_n hx hb dX1_copyFrom_151 rfl (lv_at hl 1 rfl) ?_
  refine fg_RX1_39 E hW ru1 dX1_copyFrom_152 (fun a105 m106 r107 => ?_)
  refine lv_iconst (v := 0) hx hb dX1_copyFrom_155 (by decide) ?_
  refine lv_aload_n hx hb dX1_copyFrom_156 rfl (lv_at hl 0 rfl) ?_
  refine fg_RX1_39 E hW rh0 dX1_copyFrom_157 (fun a108 m109 r110 => ?_)
  refine lv_iconst (v := 0) hx hb dX1_copyFrom_160 (by decide) ?_
  refine lv_bipush (v := 8) hx hb dX1_copyFrom_161 (by decide) ?_
  refine t_copy (N := 8) (n0 := 8) (n1 := 8) E hW tw_1298 ⟨tw_1004, tw_1003, tw_122⟩ hl.1 rfl r107 (by decide) rfl r110 (by decide) rfl rfl (by decide) rfl (by decide) (by decide) (by decide) (fun _ _ => trivial) ⟨Nat.le_of_ble_eq_true rfl, Nat.le_of_ble_eq_true rfl⟩ dX1_copyFrom_163 (fun f111 H locs n113 g114 hW => ?_)
  have hF := FM.tr hF g114 rfl
  refine lv_aload_n hx hb dX1_copyFrom_166 rfl (lv_at hl 0 rfl) ?_
  refine lv_aload_n hx hb dX1_copyFrom_167 rfl (lv_at hl 1 rfl) ?_
  refine fg_RX1_42 E hW ru1 dX1_copyFrom_168 (fun y115 m116 => ?_)
  refine fp_RX1_42 E hW rh0 dX1_copyFrom_171 (fun f118 H locs e119 n120 g121 hW => ?_)
  have hF := FM.tr hF g121 rfl
  refine lv_aload_n hx hb dX1_copyFrom_174 rfl (lv_at hl 0 rfl) ?_
  refine lv_aload_n hx hb dX1_copyFrom_175 rfl (lv_at hl 1 rfl) ?_
  refine fg_RX1_62 E hW ru1 dX1_copyFrom_176 (fun y122 m123 => ?_)
  refine fp_RX1_62 E hW rh0 dX1_copyFrom_179 (fun f124 H locs e125 n126 g127 hW => ?_)
  have hF := FM.tr hF g127 rfl
  refine lv_aload_n hx hb dX1_copyFrom_182 rfl (lv_at hl 0 rfl) ?_
  refine lv_aload_n hx hb dX1_copyFrom_183 rfl (lv_at hl 1 rfl) ?_
  refine fg_RX1_69 E hW ru1 dX1_copyFrom_184 (fun y128 m129 => ?_)
  refine fp_RX1_69 E hW rh0 dX1_copyFrom_187 (fun f130 H locs e131 n132 g133 hW => ?_)
  have hF := FM.tr hF g133 rfl
  exact e_V E hW rfl ⟨rfl, hF⟩ dX1_copyFrom_190
def ms_X1_sumOfRents : List (Nat × Nat) := []
def po_X1_sumOfRents (kp : Nat → Nat) (L : List Nat) (f0 : Nat → va_E) (h0 : Nat) : Option Value → (Nat → va_E) → Prop := fun v f => (∃ r : Int64, v = some (.long r) ∧ (True)) ∧ FM kp L ms_X1_sumOfRents f0 f
set_option maxHeartbeats 4000000 in
set_option maxRecDepth 100000 in
theorem c_X1_sumOfRents (l : Launch) (G : va_G) (cI cJ cZ cD cR cT : ClassId) (kp : Nat → Nat) (L : List Nat) (f0 : Nat → va_E) (hTH : TH cI cJ cZ cD cR cT kp L f0) (sz : Nat) (h0 : Nat) (rh0 : RK kp L h0 1) : Met l yX1_sumOfRents (Cond.code yX1_sumOfRents cX1_sumOfRents 4 (some .long) :: wTab) ({ frames := 1, cells := 0, slots := 0, locals := 40 }) (va_Pc [.ref h0] (PreW G (tys6 cI cJ cZ cD cR cT) (va_pl L f0) sz)) (QT (po_X1_sumOfRents kp L f0 h0) G cI cJ cZ cD cR cT (va_A (va_pl L f0) sz) kp L) 0 0 (va_A (va_pl L f0) sz) := by
  refine metT (by decide) (Nat.le_of_ble_eq_true rfl) hTH ?_
  intro p e s m below meth c A ls E hW hl
  obtain ⟨hx, hb, -, hml, hown, hts, -, -, -⟩ := id E
  have hF : FM kp L ms_X1_sumOfRents f0 f0 := FM.rf
  have hl : lv_has ls 4 [(0, .ref h0)] := hl
  refine lv_lconst (v := 0) hx hb dX1_sumOfRents_0 (by decide) ?_
  refine lv_lstore_n (lv' := [(1, .long 0), (0, .ref h0)]) hx hb dX1_sumOfRents_1 rfl hl (by decide) rfl (fun ls hl => ?_)
  refine lv_iconst (v := 0) hx hb dX1_sumOfRents_2 (by decide) ?_
  refine lv_istore_n (lv' := [(3, .int 0), (1, .long 0), (0, .ref h0)]) hx hb dX1_sumOfRents_3 rfl hl (by decide) rfl (fun ls hl => ?_)
  have L371 : ∀ (n : Nat), ∀ (y368 : Int32) (y370 : Int64) (b369 : (0 : Int) ≤ y368.toInt ∧ y368.toInt ≤ 40) (hm : (41 : Int) - y368.toInt ≤ n) (H : Heap) (locs : List Loc) (ls : Array Slot), WS G cI cJ cZ cD cR cT A kp L f0 s H locs → FM kp L ms_X1_sumOfRents f0 f0 → lv_has ls 4 [(3, .int y368), (1, .long y370), (0, .ref h0)] → W p l e ({ frames := 1, cells := 0, slots := 0, locals := 40 }) s m ([.ref h0] : List Value).toArray below meth c H locs 0 0 (MQ below (QT (po_X1_sumOfRents kp L f0 h0) G cI cJ cZ cD cR cT A kp L) ([.ref h0] : List Value).toArray s 0 0 A) (F0 m 4 ls []) := by
    intro n
    induction n with
    | zero =>
      intro y368 y370 b369 hm H locs ls hW hF hl
      have hz := i32_b y368
      exfalso; omega
    | succ n ih =>
      intro y368 y370 b369 hm H locs ls hW hF hl
      have ih4 := ih
      refine lv_iload_n hx hb dX1_sumOfRents_4 rfl (lv_at hl 0 rfl) ?_
      refine lv_aload_n hx hb dX1_sumOfRents_5 rfl (lv_at hl 2 rfl) ?_
      refine fg_RX1_46 E hW rh0 dX1_sumOfRents_6 (fun y372 m373 b374 => ?_)
      refine q_icmp_ge (tgt := 28) hx hb dX1_sumOfRents_9 (by decide) rfl rfl (fun c387 => ?_) (fun c387 => ?_)
      · refine lv_lload_n hx hb dX1_sumOfRents_28 rfl (lv_at hl 1 rfl) ?_
        exact e_J E hW rfl ⟨⟨_, rfl, trivial⟩, hF⟩ dX1_sumOfRents_29
      · refine lv_lload_n hx hb dX1_sumOfRents_12 rfl (lv_at hl 1 rfl) ?_
        refine lv_aload_n hx hb dX1_sumOfRents_13 rfl (lv_at hl 2 rfl) ?_
        refine fg_RX1_18 E hW rh0 dX1_sumOfRents_14 (fun a388 m389 r390 => ?_)
        refine lv_iload_n hx hb dX1_sumOfRents_17 rfl (lv_at hl 0 rfl) ?_
        refine gl_163 E hW r390 ⟨by omega, by omega⟩ dX1_sumOfRents_18 (fun y391 m392 => ?_)
        refine q_i2l hx hb dX1_sumOfRents_19 rfl (fun x394 h395 => ?_)
        have hb396 : -2147483648 ≤ x394.toInt ∧ x394.toInt ≤ 2147483647 := by have := i32_b y391; omega
        refine u_ladd hx hb dX1_sumOfRents_20 (fun x397 => ?_)
        refine lv_lstore_n (lv' := [(1, .long x397), (3, .int y368), (0, .ref h0)]) hx hb dX1_sumOfRents_21 rfl hl (by decide) rfl (fun ls hl => ?_)
        refine q_iinc hx hb dX1_sumOfRents_22 hl (k := 1) rfl rfl rfl (by omega) (by decide) (fun i398 ls h399 hl => ?_)
        have hl : lv_has ls 4 [(3, .int i398), (1, .long x397), (0, .ref h0)] := hl
        refine lv_goto (tgt := 4) hx hb dX1_sumOfRents_25 (by decide) ?_
        exact ih4 i398 x397 (by omega) (by omega) _ _ _ hW hF (lv_sub hl [0, 1, 2] rfl)
  have hk400 : (0 : Int32).toInt = 0 := rfl
  have hk401 : (0 : Int64).toInt = 0 := rfl
  exact L371 41 0 0 (by decide) (by omega) _ _ _ hW hF (lv_sub hl [0, 1, 2] rfl)
def ms_X1_sumByPlace : List (Nat × Nat) := []
def po_X1_sumByPlace (kp : Nat → Nat) (L : List Nat) (f0 : Nat → va_E) (h0 : Nat) : Option Value → (Nat → va_E) → Prop := fun v f => (∃ r : Int64, v = some (.long r) ∧ (True)) ∧ FM kp L ms_X1_sumByPlace f0 f
set_option maxHeartbeats 4000000 in
set_option maxRecDepth 100000 in
theorem c_X1_sumByPlace (l : Launch) (G : va_G) (cI cJ cZ cD cR cT : ClassId) (kp : Nat → Nat) (L : List Nat) (f0 : Nat → va_E) (hTH : TH cI cJ cZ cD cR cT kp L f0) (sz : Nat) (h0 : Nat) (rh0 : RK kp L h0 1) : Met l yX1_sumByPlace (Cond.code yX1_sumByPlace cX1_sumByPlace 4 (some .long) :: wTab) ({ frames := 1, cells := 0, slots := 0, locals := 40 }) (va_Pc [.ref h0] (PreW G (tys6 cI cJ cZ cD cR cT) (va_pl L f0) sz)) (QT (po_X1_sumByPlace kp L f0 h0) G cI cJ cZ cD cR cT (va_A (va_pl L f0) sz) kp L) 0 0 (va_A (va_pl L f0) sz) := by
  refine metT (by decide) (Nat.le_of_ble_eq_true rfl) hTH ?_
  intro p e s m below meth c A ls E hW hl
  obtain ⟨hx, hb, -, hml, hown, hts, -, -, -⟩ := id E
  have hF : FM kp L ms_X1_sumByPlace f0 f0 := FM.rf
  have hl : lv_has ls 4 [(0, .ref h0)] := hl
  refine lv_lconst (v := 0) hx hb dX1_sumByPlace_0 (by decide) ?_
  refine lv_lstore_n (lv' := [(1, .long 0), (0, .ref h0)]) hx hb dX1_sumByPlace_1 rfl hl (by decide) rfl (fun ls hl => ?_)
  refine lv_iconst (v := 0) hx hb dX1_sumByPlace_2 (by decide) ?_
  refine lv_istore_n (lv' := [(3, .int 0), (1, .long 0), (0, .ref h0)]) hx hb dX1_sumByPlace_3 rfl hl (by decide) rfl (fun ls hl => ?_)
  have L462 : ∀ (n : Nat), ∀ (y459 : Int32) (y461 : Int64) (b460 : (0 : Int) ≤ y459.toInt ∧ y459.toInt ≤ 40) (hm : (41 : Int) - y459.toInt ≤ n) (H : Heap) (locs : List Loc) (ls : Array Slot), WS G cI cJ cZ cD cR cT A kp L f0 s H locs → FM kp L ms_X1_sumByPlace f0 f0 → lv_has ls 4 [(3, .int y459), (1, .long y461), (0, .ref h0)] → W p l e ({ frames := 1, cells := 0, slots := 0, locals := 40 }) s m ([.ref h0] : List Value).toArray below meth c H locs 0 0 (MQ below (QT (po_X1_sumByPlace kp L f0 h0) G cI cJ cZ cD cR cT A kp L) ([.ref h0] : List Value).toArray s 0 0 A) (F0 m 4 ls []) := by
    intro n
    induction n with
    | zero =>
      intro y459 y461 b460 hm H locs ls hW hF hl
      have hz := i32_b y459
      exfalso; omega
    | succ n ih =>
      intro y459 y461 b460 hm H locs ls hW hF hl
      have ih4 := ih
      refine lv_iload_n hx hb dX1_sumByPlace_4 rfl (lv_at hl 0 rfl) ?_
      refine lv_aload_n hx hb dX1_sumByPlace_5 rfl (lv_at hl 2 rfl) ?_
      refine fg_RX1_46 E hW rh0 dX1_sumByPlace_6 (fun y463 m464 b465 => ?_)
      refine q_icmp_ge (tgt := 33) hx hb dX1_sumByPlace_9 (by decide) rfl rfl (fun c483 => ?_) (fun c483 => ?_)
      · refine lv_lload_n hx hb dX1_sumByPlace_33 rfl (lv_at hl 1 rfl) ?_
        exact e_J E hW rfl ⟨⟨_, rfl, trivial⟩, hF⟩ dX1_sumByPlace_34
      · refine lv_lload_n hx hb dX1_sumByPlace_12 rfl (lv_at hl 1 rfl) ?_
        refine lv_aload_n hx hb dX1_sumByPlace_13 rfl (lv_at hl 2 rfl) ?_
        refine fg_RX1_18 E hW rh0 dX1_sumByPlace_14 (fun a484 m485 r486 => ?_)
        refine lv_iload_n hx hb dX1_sumByPlace_17 rfl (lv_at hl 0 rfl) ?_
        refine gl_163 E hW r486 ⟨by omega, by omega⟩ dX1_sumByPlace_18 (fun y487 m488 => ?_)
        refine q_i2l hx hb dX1_sumByPlace_19 rfl (fun x490 h491 => ?_)
        have hb492 : -2147483648 ≤ x490.toInt ∧ x490.toInt ≤ 2147483647 := by have := i32_b y487; omega
        refine lv_iload_n hx hb dX1_sumByPlace_20 rfl (lv_at hl 0 rfl) ?_
        refine lv_iconst (v := 1) hx hb dX1_sumByPlace_21 (by decide) ?_
        refine q_iadd (Y := 1) hx hb dX1_sumByPlace_22 rfl rfl (by omega) (fun x493 h494 => ?_)
        refine q_i2l hx hb dX1_sumByPlace_23 rfl (fun x495 h496 => ?_)
        refine u_lmul hx hb dX1_sumByPlace_24 (fun x497 => ?_)
        refine u_ladd hx hb dX1_sumByPlace_25 (fun x498 => ?_)
        refine lv_lstore_n (lv' := [(1, .long x498), (3, .int y459), (0, .ref h0)]) hx hb dX1_sumByPlace_26 rfl hl (by decide) rfl (fun ls hl => ?_)
        refine q_iinc hx hb dX1_sumByPlace_27 hl (k := 1) rfl rfl rfl (by omega) (by decide) (fun i499 ls h500 hl => ?_)
        have hl : lv_has ls 4 [(3, .int i499), (1, .long x498), (0, .ref h0)] := hl
        refine lv_goto (tgt := 4) hx hb dX1_sumByPlace_30 (by decide) ?_
        exact ih4 i499 x498 (by omega) (by omega) _ _ _ hW hF (lv_sub hl [0, 1, 2] rfl)
  have hk501 : (0 : Int32).toInt = 0 := rfl
  have hk502 : (0 : Int64).toInt = 0 := rfl
  exact L462 41 0 0 (by decide) (by omega) _ _ _ hW hF (lv_sub hl [0, 1, 2] rfl)
def ms_X1_findAltered : List (Nat × Nat) := []
def po_X1_findAltered (kp : Nat → Nat) (L : List Nat) (f0 : Nat → va_E) (h0 : Nat) : Option Value → (Nat → va_E) → Prop := fun v f => (∃ r : Int32, v = some (.int r) ∧ ((-3 : Int) ≤ r.toInt ∧ r.toInt ≤ 39)) ∧ FM kp L ms_X1_findAltered f0 f
set_option maxHeartbeats 4000000 in
set_option maxRecDepth 100000 in
theorem c_X1_findAltered (l : Launch) (G : va_G) (cI cJ cZ cD cR cT : ClassId) (kp : Nat → Nat) (L : List Nat) (f0 : Nat → va_E) (hTH : TH cI cJ cZ cD cR cT kp L f0) (sz : Nat) (h0 : Nat) (rh0 : RK kp L h0 1) : Met l yX1_findAltered (Cond.code yX1_findAltered cX1_findAltered 6 (some .int) :: wTab) ({ frames := 2, cells := 0, slots := 0, locals := 63 }) (va_Pc [.ref h0] (PreW G (tys6 cI cJ cZ cD cR cT) (va_pl L f0) sz)) (QT (po_X1_findAltered kp L f0 h0) G cI cJ cZ cD cR cT (va_A (va_pl L f0) sz) kp L) 0 0 (va_A (va_pl L f0) sz) := by
  refine metT (by decide) (Nat.le_of_ble_eq_true rfl) hTH ?_
  intro p e s m below meth c A ls E hW hl
  obtain ⟨hx, hb, -, hml, hown, hts, -, -, -⟩ := id E
  have hF : FM kp L ms_X1_findAltered f0 f0 := FM.rf
  have hl : lv_has ls 6 [(0, .ref h0)] := hl
  refine lv_aload_n hx hb dX1_findAltered_0 rfl (lv_at hl 0 rfl) ?_
  refine fg_RX1_42 E hW rh0 dX1_findAltered_1 (fun y1 m2 => ?_)
  refine lv_iconst (v := (-1)) hx hb dX1_findAltered_4 (by decide) ?_
  refine q_icmp_ne (Y := -1) (tgt := 11) hx hb dX1_findAltered_5 (by decide) rfl rfl (fun c4 => ?_) (fun c4 => ?_)
  · refine lv_aload_n hx hb dX1_findAltered_11 rfl (lv_at hl 0 rfl) ?_
    refine fg_RX1_46 E hW rh0 dX1_findAltered_12 (fun y5 m6 b7 => ?_)
    refine lv_aload_n hx hb dX1_findAltered_15 rfl (lv_at hl 0 rfl) ?_
    refine fg_RX1_42 E hW rh0 dX1_findAltered_16 (fun y8 m9 => ?_)
    obtain rfl : y1 = y8 := (m2).symm.trans m9
    refine q_icmp_le (tgt := 25) hx hb dX1_findAltered_19 (by decide) rfl rfl (fun c11 => ?_) (fun c11 => ?_)
    · refine lv_aload_n hx hb dX1_findAltered_25 rfl (lv_at hl 0 rfl) ?_
      refine t_callV (As := []) (rest := []) E hW (c_X1_sumOfRents l G cI cJ cZ cD cR cT kp L f0 hW.2.2.2 _ h0 rh0) rh0 (by decide) rfl wk_X1_sumOfRents tw_1348 rfl ⟨Nat.le_of_ble_eq_true rfl, Nat.le_of_ble_eq_true rfl⟩ ⟨rfl, rfl⟩ hl.1 rfl (Nat.le_of_ble_eq_true rfl) dX1_findAltered_26 ⟨Nat.le_of_ble_eq_true rfl, Nat.le_of_ble_eq_true rfl⟩ (fun v12 f13 H locs q14 hW => ?_)
      obtain ⟨⟨x16, rfl, p17⟩, g15⟩ := q14
      clear p17
      have hF := FM.tr hF g15 rfl
      refine lv_aload_n hx hb dX1_findAltered_29 rfl (lv_at hl 0 rfl) ?_
      refine fg_RX1_62 E hW rh0 dX1_findAltered_30 (fun y18 m19 => ?_)
      refine u_lsub hx hb dX1_findAltered_33 (fun x20 => ?_)
      refine lv_lstore_n (lv' := [(1, .long x20), (0, .ref h0)]) hx hb dX1_findAltered_34 rfl hl (by decide) rfl (fun ls hl => ?_)
      refine lv_aload_n hx hb dX1_findAltered_35 rfl (lv_at hl 1 rfl) ?_
      refine t_callV (As := []) (rest := []) E hW (c_X1_sumByPlace l G cI cJ cZ cD cR cT kp L f13 hW.2.2.2 _ h0 rh0) rh0 (by decide) rfl wk_X1_sumByPlace tw_1352 rfl ⟨Nat.le_of_ble_eq_true rfl, Nat.le_of_ble_eq_true rfl⟩ ⟨rfl, rfl⟩ hl.1 rfl (Nat.le_of_ble_eq_true rfl) dX1_findAltered_36 ⟨Nat.le_of_ble_eq_true rfl, Nat.le_of_ble_eq_true rfl⟩ (fun v21 f22 H locs q23 hW => ?_)
      obtain ⟨⟨x25, rfl, p26⟩, g24⟩ := q23
      clear p26
      have hF := FM.tr hF g24 rfl
      refine lv_aload_n hx hb dX1_findAltered_39 rfl (lv_at hl 1 rfl) ?_
      refine fg_RX1_69 E hW rh0 dX1_findAltered_40 (fun y27 m28 => ?_)
      refine u_lsub hx hb dX1_findAltered_43 (fun x29 => ?_)
      refine lv_lstore_n (lv' := [(3, .long x29), (1, .long x20), (0, .ref h0)]) hx hb dX1_findAltered_44 rfl hl (by decide) rfl (fun ls hl => ?_)
      refine lv_lload_n hx hb dX1_findAltered_45 rfl (lv_at hl 1 rfl) ?_
      refine lv_lconst (v := 0) hx hb dX1_findAltered_46 (by decide) ?_
      refine q_lcmp_ne (Y := 0) (tgt := 59) hx hb dX1_findAltered_47 dX1_findAltered_48 (by decide) rfl rfl (fun c30 => ?_) (fun c30 => ?_)
      · refine lv_iconst (v := 0) hx hb dX1_findAltered_59 (by decide) ?_
        refine lv_istore (lv' := [(5, .int 0), (3, .long x29), (1, .long x20), (0, .ref h0)]) hx hb dX1_findAltered_60 hl (by decide) rfl (fun ls hl => ?_)
        have L299 : ∀ (n : Nat), ∀ (y297 : Int32) (b298 : (0 : Int) ≤ y297.toInt ∧ y297.toInt ≤ 40) (hm : (41 : Int) - y297.toInt ≤ n) (H : Heap) (locs : List Loc) (ls : Array Slot), WS G cI cJ cZ cD cR cT A kp L f22 s H locs → FM kp L ms_X1_findAltered f0 f22 → lv_has ls 6 [(5, .int y297), (3, .long x29), (1, .long x20), (0, .ref h0)] → W p l e ({ frames := 2, cells := 0, slots := 0, locals := 63 }) s m ([.ref h0] : List Value).toArray below meth c H locs 0 0 (MQ below (QT (po_X1_findAltered kp L f0 h0) G cI cJ cZ cD cR cT A kp L) ([.ref h0] : List Value).toArray s 0 0 A) (F0 m 62 ls []) := by
          intro n
          induction n with
          | zero =>
            intro y297 b298 hm H locs ls hW hF hl
            have hz := i32_b y297
            exfalso; omega
          | succ n ih =>
            intro y297 b298 hm H locs ls hW hF hl
            have ih62 := ih
            refine lv_iload hx hb dX1_findAltered_62 (lv_at hl 0 rfl) ?_
            refine lv_aload_n hx hb dX1_findAltered_64 rfl (lv_at hl 3 rfl) ?_
            refine fg_RX1_46 E hW rh0 dX1_findAltered_65 (fun y300 m301 b302 => ?_)
            obtain rfl : y5 = y300 := (((fm_I g24 rh0 rfl).trans ((fm_I g15 rh0 rfl).trans m6))).symm.trans m301
            refine q_icmp_ge (tgt := 92) hx hb dX1_findAltered_68 (by decide) rfl rfl (fun c303 => ?_) (fun c303 => ?_)
            · refine lv_bipush (v := (-2)) hx hb dX1_findAltered_92 (by decide) ?_
              exact e_I E hW rfl ⟨⟨_, rfl, (by have hk : ((-2) : Int32).toInt = -2 := rfl; first | decide | omega)⟩, hF⟩ dX1_findAltered_94
            · refine lv_lload_n hx hb dX1_findAltered_71 rfl (lv_at hl 2 rfl) ?_
              refine lv_iload hx hb dX1_findAltered_72 (lv_at hl 0 rfl) ?_
              refine lv_iconst (v := 1) hx hb dX1_findAltered_74 (by decide) ?_
              refine q_iadd (Y := 1) hx hb dX1_findAltered_75 rfl rfl (by omega) (fun x304 h305 => ?_)
              refine q_i2l hx hb dX1_findAltered_76 rfl (fun x306 h307 => ?_)
              refine u_lmul hx hb dX1_findAltered_77 (fun x308 => ?_)
              refine lv_lload_n hx hb dX1_findAltered_78 rfl (lv_at hl 1 rfl) ?_
              refine q_lcmp_ne (tgt := 86) hx hb dX1_findAltered_79 dX1_findAltered_80 (by decide) rfl rfl (fun c309 => ?_) (fun c309 => ?_)
              · refine q_iinc hx hb dX1_findAltered_86 hl (k := 0) rfl rfl rfl (by omega) (by decide) (fun i310 ls h311 hl => ?_)
                have hl : lv_has ls 6 [(5, .int i310), (3, .long x29), (1, .long x20), (0, .ref h0)] := hl
                refine lv_goto (tgt := 62) hx hb dX1_findAltered_89 (by decide) ?_
                exact ih62 i310 (by omega) (by omega) _ _ _ hW hF (lv_sub hl [0, 1, 2, 3] rfl)
              · refine lv_iload hx hb dX1_findAltered_83 (lv_at hl 0 rfl) ?_
                exact e_I E hW rfl ⟨⟨_, rfl, (by first | omega | trivial)⟩, hF⟩ dX1_findAltered_85
        have hk312 : (0 : Int32).toInt = 0 := rfl
        exact L299 41 0 (by decide) (by omega) _ _ _ hW hF (lv_sub hl [0, 1, 2, 3] rfl)
      · refine lv_lload_n hx hb dX1_findAltered_51 rfl (lv_at hl 0 rfl) ?_
        refine lv_lconst (v := 0) hx hb dX1_findAltered_52 (by decide) ?_
        refine q_lcmp_ne (Y := 0) (tgt := 59) hx hb dX1_findAltered_53 dX1_findAltered_54 (by decide) rfl rfl (fun c313 => ?_) (fun c313 => ?_)
        · refine lv_iconst (v := 0) hx hb dX1_findAltered_59 (by decide) ?_
          refine lv_istore (lv' := [(5, .int 0), (3, .long x29), (1, .long x20), (0, .ref h0)]) hx hb dX1_findAltered_60 hl (by decide) rfl (fun ls hl => ?_)
          have L582 : ∀ (n : Nat), ∀ (y580 : Int32) (b581 : (0 : Int) ≤ y580.toInt ∧ y580.toInt ≤ 40) (hm : (41 : Int) - y580.toInt ≤ n) (H : Heap) (locs : List Loc) (ls : Array Slot), WS G cI cJ cZ cD cR cT A kp L f22 s H locs → FM kp L ms_X1_findAltered f0 f22 → lv_has ls 6 [(5, .int y580), (3, .long x29), (1, .long x20), (0, .ref h0)] → W p l e ({ frames := 2, cells := 0, slots := 0, locals := 63 }) s m ([.ref h0] : List Value).toArray below meth c H locs 0 0 (MQ below (QT (po_X1_findAltered kp L f0 h0) G cI cJ cZ cD cR cT A kp L) ([.ref h0] : List Value).toArray s 0 0 A) (F0 m 62 ls []) := by
            intro n
            induction n with
            | zero =>
              intro y580 b581 hm H locs ls hW hF hl
              have hz := i32_b y580
              exfalso; omega
            | succ n ih =>
              intro y580 b581 hm H locs ls hW hF hl
              have ih62 := ih
              refine lv_iload hx hb dX1_findAltered_62 (lv_at hl 0 rfl) ?_
              refine lv_aload_n hx hb dX1_findAltered_64 rfl (lv_at hl 3 rfl) ?_
              refine fg_RX1_46 E hW rh0 dX1_findAltered_65 (fun y583 m584 b585 => ?_)
              obtain rfl : y5 = y583 := (((fm_I g24 rh0 rfl).trans ((fm_I g15 rh0 rfl).trans m6))).symm.trans m584
              refine q_icmp_ge (tgt := 92) hx hb dX1_findAltered_68 (by decide) rfl rfl (fun c586 => ?_) (fun c586 => ?_)
              · refine lv_bipush (v := (-2)) hx hb dX1_findAltered_92 (by decide) ?_
                exact e_I E hW rfl ⟨⟨_, rfl, (by have hk : ((-2) : Int32).toInt = -2 := rfl; first | decide | omega)⟩, hF⟩ dX1_findAltered_94
              · refine lv_lload_n hx hb dX1_findAltered_71 rfl (lv_at hl 2 rfl) ?_
                refine lv_iload hx hb dX1_findAltered_72 (lv_at hl 0 rfl) ?_
                refine lv_iconst (v := 1) hx hb dX1_findAltered_74 (by decide) ?_
                refine q_iadd (Y := 1) hx hb dX1_findAltered_75 rfl rfl (by omega) (fun x587 h588 => ?_)
                refine q_i2l hx hb dX1_findAltered_76 rfl (fun x589 h590 => ?_)
                refine u_lmul hx hb dX1_findAltered_77 (fun x591 => ?_)
                refine lv_lload_n hx hb dX1_findAltered_78 rfl (lv_at hl 1 rfl) ?_
                refine q_lcmp_ne (tgt := 86) hx hb dX1_findAltered_79 dX1_findAltered_80 (by decide) rfl rfl (fun c592 => ?_) (fun c592 => ?_)
                · refine q_iinc hx hb dX1_findAltered_86 hl (k := 0) rfl rfl rfl (by omega) (by decide) (fun i593 ls h594 hl => ?_)
                  have hl : lv_has ls 6 [(5, .int i593), (3, .long x29), (1, .long x20), (0, .ref h0)] := hl
                  refine lv_goto (tgt := 62) hx hb dX1_findAltered_89 (by decide) ?_
                  exact ih62 i593 (by omega) (by omega) _ _ _ hW hF (lv_sub hl [0, 1, 2, 3] rfl)
                · refine lv_iload hx hb dX1_findAltered_83 (lv_at hl 0 rfl) ?_
                  exact e_I E hW rfl ⟨⟨_, rfl, (by first | omega | trivial)⟩, hF⟩ dX1_findAltered_85
          have hk595 : (0 : Int32).toInt = 0 := rfl
          exact L582 41 0 (by decide) (by omega) _ _ _ hW hF (lv_sub hl [0, 1, 2, 3] rfl)
        · refine lv_iconst (v := (-1)) hx hb dX1_findAltered_57 (by decide) ?_
          exact e_I E hW rfl ⟨⟨_, rfl, (by have hk : ((-1) : Int32).toInt = -1 := rfl; first | decide | omega)⟩, hF⟩ dX1_findAltered_58
    · refine lv_bipush (v := (-2)) hx hb dX1_findAltered_22 (by decide) ?_
      exact e_I E hW rfl ⟨⟨_, rfl, (by have hk : ((-2) : Int32).toInt = -2 := rfl; first | decide | omega)⟩, hF⟩ dX1_findAltered_24
  · refine lv_bipush (v := (-3)) hx hb dX1_findAltered_8 (by decide) ?_
    exact e_I E hW rfl ⟨⟨_, rfl, (by have hk : ((-3) : Int32).toInt = -3 := rfl; first | decide | omega)⟩, hF⟩ dX1_findAltered_10
def ms_X1_has : List (Nat × Nat) := []
def po_X1_has (kp : Nat → Nat) (L : List Nat) (f0 : Nat → va_E) (h0 : Nat) (u1 : Int32) : Option Value → (Nat → va_E) → Prop := fun v f => (∃ r : Int32, v = some (.int r) ∧ ((r.toInt = 1 ∧ 0 ≤ u1.toInt ∧ u1.toInt ≤ 39) ∨ r.toInt = 0)) ∧ FM kp L ms_X1_has f0 f
set_option maxHeartbeats 4000000 in
set_option maxRecDepth 100000 in
theorem c_X1_has (l : Launch) (G : va_G) (cI cJ cZ cD cR cT : ClassId) (kp : Nat → Nat) (L : List Nat) (f0 : Nat → va_E) (hTH : TH cI cJ cZ cD cR cT kp L f0) (sz : Nat) (h0 : Nat) (u1 : Int32) (rh0 : RK kp L h0 1) : Met l yX1_has (Cond.code yX1_has cX1_has 2 (some .boolean) :: wTab) ({ frames := 1, cells := 0, slots := 0, locals := 40 }) (va_Pc [.ref h0, .int u1] (PreW G (tys6 cI cJ cZ cD cR cT) (va_pl L f0) sz)) (QT (po_X1_has kp L f0 h0 u1) G cI cJ cZ cD cR cT (va_A (va_pl L f0) sz) kp L) 0 0 (va_A (va_pl L f0) sz) := by
  refine metT (by decide) (Nat.le_of_ble_eq_true rfl) hTH ?_
  intro p e s m below meth c A ls E hW hl
  obtain ⟨hx, hb, -, hml, hown, hts, -, -, -⟩ := id E
  have hF : FM kp L ms_X1_has f0 f0 := FM.rf
  have hl : lv_has ls 2 [(0, .ref h0), (1, .int u1)] := hl
  refine lv_iload_n hx hb dX1_has_0 rfl (lv_at hl 1 rfl) ?_
  refine q_if_lt (tgt := 16) hx hb dX1_has_1 (by decide) rfl (fun c1 => ?_) (fun c1 => ?_)
  · refine lv_iconst (v := 0) hx hb dX1_has_16 (by decide) ?_
    exact e_Z E hW rfl (by decide) ⟨⟨_, rfl, (by have hk : (0 : Int32).toInt = 0 := rfl; first | decide | omega)⟩, hF⟩ dX1_has_17
  · refine lv_iload_n hx hb dX1_has_4 rfl (lv_at hl 1 rfl) ?_
    refine lv_aload_n hx hb dX1_has_5 rfl (lv_at hl 0 rfl) ?_
    refine fg_RX1_46 E hW rh0 dX1_has_6 (fun y2 m3 b4 => ?_)
    refine q_icmp_ge (tgt := 16) hx hb dX1_has_9 (by decide) rfl rfl (fun c5 => ?_) (fun c5 => ?_)
    · refine lv_iconst (v := 0) hx hb dX1_has_16 (by decide) ?_
      exact e_Z E hW rfl (by decide) ⟨⟨_, rfl, (by have hk : (0 : Int32).toInt = 0 := rfl; first | decide | omega)⟩, hF⟩ dX1_has_17
    · refine lv_iconst (v := 1) hx hb dX1_has_12 (by decide) ?_
      refine lv_goto (tgt := 17) hx hb dX1_has_13 (by decide) ?_
      exact e_Z E hW rfl (by decide) ⟨⟨_, rfl, (by have hk : (1 : Int32).toInt = 1 := rfl; first | decide | omega)⟩, hF⟩ dX1_has_17
def ms_X1_hasEstate : List (Nat × Nat) := []
def po_X1_hasEstate (kp : Nat → Nat) (L : List Nat) (f0 : Nat → va_E) (h0 : Nat) (u1 : Int32) : Option Value → (Nat → va_E) → Prop := fun v f => (∃ r : Int32, v = some (.int r) ∧ ((r.toInt = 1 ∧ 0 ≤ u1.toInt ∧ u1.toInt ≤ 7) ∨ r.toInt = 0)) ∧ FM kp L ms_X1_hasEstate f0 f
set_option maxHeartbeats 4000000 in
set_option maxRecDepth 100000 in
theorem c_X1_hasEstate (l : Launch) (G : va_G) (cI cJ cZ cD cR cT : ClassId) (kp : Nat → Nat) (L : List Nat) (f0 : Nat → va_E) (hTH : TH cI cJ cZ cD cR cT kp L f0) (sz : Nat) (h0 : Nat) (u1 : Int32) (rh0 : RK kp L h0 1) : Met l yX1_hasEstate (Cond.code yX1_hasEstate cX1_hasEstate 2 (some .boolean) :: wTab) ({ frames := 1, cells := 0, slots := 0, locals := 40 }) (va_Pc [.ref h0, .int u1] (PreW G (tys6 cI cJ cZ cD cR cT) (va_pl L f0) sz)) (QT (po_X1_hasEstate kp L f0 h0 u1) G cI cJ cZ cD cR cT (va_A (va_pl L f0) sz) kp L) 0 0 (va_A (va_pl L f0) sz) := by
  refine metT (by decide) (Nat.le_of_ble_eq_true rfl) hTH ?_
  intro p e s m below meth c A ls E hW hl
  obtain ⟨hx, hb, -, hml, hown, hts, -, -, -⟩ := id E
  have hF : FM kp L ms_X1_hasEstate f0 f0 := FM.rf
  have hl : lv_has ls 2 [(0, .ref h0), (1, .int u1)] := hl
  refine lv_iload_n hx hb dX1_hasEstate_0 rfl (lv_at hl 1 rfl) ?_
  refine q_if_lt (tgt := 16) hx hb dX1_hasEstate_1 (by decide) rfl (fun c1 => ?_) (fun c1 => ?_)
  · refine lv_iconst (v := 0) hx hb dX1_hasEstate_16 (by decide) ?_
    exact e_Z E hW rfl (by decide) ⟨⟨_, rfl, (by have hk : (0 : Int32).toInt = 0 := rfl; first | decide | omega)⟩, hF⟩ dX1_hasEstate_17
  · refine lv_iload_n hx hb dX1_hasEstate_4 rfl (lv_at hl 1 rfl) ?_
    refine lv_aload_n hx hb dX1_hasEstate_5 rfl (lv_at hl 0 rfl) ?_
    refine fg_RX1_49 E hW rh0 dX1_hasEstate_6 (fun y2 m3 b4 => ?_)
    refine q_icmp_ge (tgt := 16) hx hb dX1_hasEstate_9 (by decide) rfl rfl (fun c5 => ?_) (fun c5 => ?_)
    · refine lv_iconst (v := 0) hx hb dX1_hasEstate_16 (by decide) ?_
      exact e_Z E hW rfl (by decide) ⟨⟨_, rfl, (by have hk : (0 : Int32).toInt = 0 := rfl; first | decide | omega)⟩, hF⟩ dX1_hasEstate_17
    · refine lv_iconst (v := 1) hx hb dX1_hasEstate_12 (by decide) ?_
      refine lv_goto (tgt := 17) hx hb dX1_hasEstate_13 (by decide) ?_
      exact e_Z E hW rfl (by decide) ⟨⟨_, rfl, (by have hk : (1 : Int32).toInt = 1 := rfl; first | decide | omega)⟩, hF⟩ dX1_hasEstate_17
def ms_X1_isGrabbedBy : List (Nat × Nat) := []
def po_X1_isGrabbedBy (kp : Nat → Nat) (L : List Nat) (f0 : Nat → va_E) (h0 : Nat) (u1 : Int32) : Option Value → (Nat → va_E) → Prop := fun v f => (∃ r : Int32, v = some (.int r) ∧ ((0 : Int) ≤ r.toInt ∧ r.toInt ≤ 1)) ∧ FM kp L ms_X1_isGrabbedBy f0 f
set_option maxHeartbeats 4000000 in
set_option maxRecDepth 100000 in
theorem c_X1_isGrabbedBy (l : Launch) (G : va_G) (cI cJ cZ cD cR cT : ClassId) (kp : Nat → Nat) (L : List Nat) (f0 : Nat → va_E) (hTH : TH cI cJ cZ cD cR cT kp L f0) (sz : Nat) (h0 : Nat) (u1 : Int32) (rh0 : RK kp L h0 1) (pu1 : (0 : Int) ≤ u1.toInt ∧ u1.toInt ≤ 39) : Met l yX1_isGrabbedBy (Cond.code yX1_isGrabbedBy cX1_isGrabbedBy 3 (some .boolean) :: wTab) ({ frames := 1, cells := 0, slots := 0, locals := 40 }) (va_Pc [.ref h0, .int u1] (PreW G (tys6 cI cJ cZ cD cR cT) (va_pl L f0) sz)) (QT (po_X1_isGrabbedBy kp L f0 h0 u1) G cI cJ cZ cD cR cT (va_A (va_pl L f0) sz) kp L) 0 0 (va_A (va_pl L f0) sz) := by
  refine metT (by decide) (Nat.le_of_ble_eq_true rfl) hTH ?_
  intro p e s m below meth c A ls E hW hl
  obtain ⟨hx, hb, -, hml, hown, hts, -, -, -⟩ := id E
  have hF : FM kp L ms_X1_isGrabbedBy f0 f0 := FM.rf
  have hl : lv_has ls 3 [(0, .ref h0), (1, .int u1)] := hl
  refine lv_iconst (v := 0) hx hb dX1_isGrabbedBy_0 (by decide) ?_
  refine lv_istore_n (lv' := [(2, .int 0), (0, .ref h0), (1, .int u1)]) hx hb dX1_isGrabbedBy_1 rfl hl (by decide) rfl (fun ls hl => ?_)
  have L459 : ∀ (n : Nat), ∀ (y457 : Int32) (b458 : (0 : Int) ≤ y457.toInt ∧ y457.toInt ≤ 40) (hm : (41 : Int) - y457.toInt ≤ n) (H : Heap) (locs : List Loc) (ls : Array Slot), WS G cI cJ cZ cD cR cT A kp L f0 s H locs → FM kp L ms_X1_isGrabbedBy f0 f0 → lv_has ls 3 [(2, .int y457), (0, .ref h0), (1, .int u1)] → W p l e ({ frames := 1, cells := 0, slots := 0, locals := 40 }) s m ([.ref h0, .int u1] : List Value).toArray below meth c H locs 0 0 (MQ below (QT (po_X1_isGrabbedBy kp L f0 h0 u1) G cI cJ cZ cD cR cT A kp L) ([.ref h0, .int u1] : List Value).toArray s 0 0 A) (F0 m 2 ls []) := by
    intro n
    induction n with
    | zero =>
      intro y457 b458 hm H locs ls hW hF hl
      have hz := i32_b y457
      exfalso; omega
    | succ n ih =>
      intro y457 b458 hm H locs ls hW hF hl
      have ih2 := ih
      refine lv_iload_n hx hb dX1_isGrabbedBy_2 rfl (lv_at hl 0 rfl) ?_
      refine lv_aload_n hx hb dX1_isGrabbedBy_3 rfl (lv_at hl 1 rfl) ?_
      refine fg_RX1_46 E hW rh0 dX1_isGrabbedBy_4 (fun y460 m461 b462 => ?_)
      refine q_icmp_ge (tgt := 38) hx hb dX1_isGrabbedBy_7 (by decide) rfl rfl (fun c463 => ?_) (fun c463 => ?_)
      · refine lv_iconst (v := 0) hx hb dX1_isGrabbedBy_38 (by decide) ?_
        exact e_Z E hW rfl (by decide) ⟨⟨_, rfl, (by have hk : (0 : Int32).toInt = 0 := rfl; first | decide | omega)⟩, hF⟩ dX1_isGrabbedBy_39
      · refine lv_aload_n hx hb dX1_isGrabbedBy_10 rfl (lv_at hl 1 rfl) ?_
        refine fg_RX1_21 E hW rh0 dX1_isGrabbedBy_11 (fun a464 m465 r466 => ?_)
        refine lv_iload_n hx hb dX1_isGrabbedBy_14 rfl (lv_at hl 0 rfl) ?_
        refine gl_164 E hW r466 ⟨by omega, by omega⟩ dX1_isGrabbedBy_15 (fun y467 m468 b469 => ?_)
        refine lv_iload_n hx hb dX1_isGrabbedBy_16 rfl (lv_at hl 2 rfl) ?_
        refine q_icmp_ne (tgt := 32) hx hb dX1_isGrabbedBy_17 (by decide) rfl rfl (fun c470 => ?_) (fun c470 => ?_)
        · refine q_iinc hx hb dX1_isGrabbedBy_32 hl (k := 0) rfl rfl rfl (by omega) (by decide) (fun i471 ls h472 hl => ?_)
          have hl : lv_has ls 3 [(2, .int i471), (0, .ref h0), (1, .int u1)] := hl
          refine lv_goto (tgt := 2) hx hb dX1_isGrabbedBy_35 (by decide) ?_
          exact ih2 i471 (by omega) (by omega) _ _ _ hW hF (lv_sub hl [0, 1, 2] rfl)
        · refine lv_aload_n hx hb dX1_isGrabbedBy_20 rfl (lv_at hl 1 rfl) ?_
          refine fg_RX1_27 E hW rh0 dX1_isGrabbedBy_21 (fun a473 m474 r475 => ?_)
          refine lv_iload_n hx hb dX1_isGrabbedBy_24 rfl (lv_at hl 0 rfl) ?_
          refine gl_166 E hW r475 ⟨by omega, by omega⟩ dX1_isGrabbedBy_25 (fun y476 m477 => ?_)
          refine lv_iconst (v := 1) hx hb dX1_isGrabbedBy_26 (by decide) ?_
          refine q_icmp_ne (Y := 1) (tgt := 32) hx hb dX1_isGrabbedBy_27 (by decide) rfl rfl (fun c479 => ?_) (fun c479 => ?_)
          · refine q_iinc hx hb dX1_isGrabbedBy_32 hl (k := 0) rfl rfl rfl (by omega) (by decide) (fun i480 ls h481 hl => ?_)
            have hl : lv_has ls 3 [(2, .int i480), (0, .ref h0), (1, .int u1)] := hl
            refine lv_goto (tgt := 2) hx hb dX1_isGrabbedBy_35 (by decide) ?_
            exact ih2 i480 (by omega) (by omega) _ _ _ hW hF (lv_sub hl [0, 1, 2] rfl)
          · refine lv_iconst (v := 1) hx hb dX1_isGrabbedBy_30 (by decide) ?_
            exact e_Z E hW rfl (by decide) ⟨⟨_, rfl, (by have hk : (1 : Int32).toInt = 1 := rfl; first | decide | omega)⟩, hF⟩ dX1_isGrabbedBy_31
  have hk482 : (0 : Int32).toInt = 0 := rfl
  exact L459 41 0 (by decide) (by omega) _ _ _ hW hF (lv_sub hl [0, 1, 2] rfl)
def ms_X1_isHeldBy : List (Nat × Nat) := []
def po_X1_isHeldBy (kp : Nat → Nat) (L : List Nat) (f0 : Nat → va_E) (h0 : Nat) (u1 : Int32) : Option Value → (Nat → va_E) → Prop := fun v f => (∃ r : Int32, v = some (.int r) ∧ ((0 : Int) ≤ r.toInt ∧ r.toInt ≤ 1)) ∧ FM kp L ms_X1_isHeldBy f0 f
set_option maxHeartbeats 4000000 in
set_option maxRecDepth 100000 in
theorem c_X1_isHeldBy (l : Launch) (G : va_G) (cI cJ cZ cD cR cT : ClassId) (kp : Nat → Nat) (L : List Nat) (f0 : Nat → va_E) (hTH : TH cI cJ cZ cD cR cT kp L f0) (sz : Nat) (h0 : Nat) (u1 : Int32) (rh0 : RK kp L h0 1) (pu1 : (0 : Int) ≤ u1.toInt ∧ u1.toInt ≤ 39) : Met l yX1_isHeldBy (Cond.code yX1_isHeldBy cX1_isHeldBy 3 (some .boolean) :: wTab) ({ frames := 1, cells := 0, slots := 0, locals := 40 }) (va_Pc [.ref h0, .int u1] (PreW G (tys6 cI cJ cZ cD cR cT) (va_pl L f0) sz)) (QT (po_X1_isHeldBy kp L f0 h0 u1) G cI cJ cZ cD cR cT (va_A (va_pl L f0) sz) kp L) 0 0 (va_A (va_pl L f0) sz) := by
  refine metT (by decide) (Nat.le_of_ble_eq_true rfl) hTH ?_
  intro p e s m below meth c A ls E hW hl
  obtain ⟨hx, hb, -, hml, hown, hts, -, -, -⟩ := id E
  have hF : FM kp L ms_X1_isHeldBy f0 f0 := FM.rf
  have hl : lv_has ls 3 [(0, .ref h0), (1, .int u1)] := hl
  refine lv_iconst (v := 0) hx hb dX1_isHeldBy_0 (by decide) ?_
  refine lv_istore_n (lv' := [(2, .int 0), (0, .ref h0), (1, .int u1)]) hx hb dX1_isHeldBy_1 rfl hl (by decide) rfl (fun ls hl => ?_)
  have L288 : ∀ (n : Nat), ∀ (y286 : Int32) (b287 : (0 : Int) ≤ y286.toInt ∧ y286.toInt ≤ 40) (hm : (41 : Int) - y286.toInt ≤ n) (H : Heap) (locs : List Loc) (ls : Array Slot), WS G cI cJ cZ cD cR cT A kp L f0 s H locs → FM kp L ms_X1_isHeldBy f0 f0 → lv_has ls 3 [(2, .int y286), (0, .ref h0), (1, .int u1)] → W p l e ({ frames := 1, cells := 0, slots := 0, locals := 40 }) s m ([.ref h0, .int u1] : List Value).toArray below meth c H locs 0 0 (MQ below (QT (po_X1_isHeldBy kp L f0 h0 u1) G cI cJ cZ cD cR cT A kp L) ([.ref h0, .int u1] : List Value).toArray s 0 0 A) (F0 m 2 ls []) := by
    intro n
    induction n with
    | zero =>
      intro y286 b287 hm H locs ls hW hF hl
      have hz := i32_b y286
      exfalso; omega
    | succ n ih =>
      intro y286 b287 hm H locs ls hW hF hl
      have ih2 := ih
      refine lv_iload_n hx hb dX1_isHeldBy_2 rfl (lv_at hl 0 rfl) ?_
      refine lv_aload_n hx hb dX1_isHeldBy_3 rfl (lv_at hl 1 rfl) ?_
      refine fg_RX1_46 E hW rh0 dX1_isHeldBy_4 (fun y289 m290 b291 => ?_)
      refine q_icmp_ge (tgt := 28) hx hb dX1_isHeldBy_7 (by decide) rfl rfl (fun c292 => ?_) (fun c292 => ?_)
      · refine lv_iconst (v := 0) hx hb dX1_isHeldBy_28 (by decide) ?_
        exact e_Z E hW rfl (by decide) ⟨⟨_, rfl, (by have hk : (0 : Int32).toInt = 0 := rfl; first | decide | omega)⟩, hF⟩ dX1_isHeldBy_29
      · refine lv_aload_n hx hb dX1_isHeldBy_10 rfl (lv_at hl 1 rfl) ?_
        refine fg_RX1_21 E hW rh0 dX1_isHeldBy_11 (fun a293 m294 r295 => ?_)
        refine lv_iload_n hx hb dX1_isHeldBy_14 rfl (lv_at hl 0 rfl) ?_
        refine gl_164 E hW r295 ⟨by omega, by omega⟩ dX1_isHeldBy_15 (fun y296 m297 b298 => ?_)
        refine lv_iload_n hx hb dX1_isHeldBy_16 rfl (lv_at hl 2 rfl) ?_
        refine q_icmp_ne (tgt := 22) hx hb dX1_isHeldBy_17 (by decide) rfl rfl (fun c299 => ?_) (fun c299 => ?_)
        · refine q_iinc hx hb dX1_isHeldBy_22 hl (k := 0) rfl rfl rfl (by omega) (by decide) (fun i300 ls h301 hl => ?_)
          have hl : lv_has ls 3 [(2, .int i300), (0, .ref h0), (1, .int u1)] := hl
          refine lv_goto (tgt := 2) hx hb dX1_isHeldBy_25 (by decide) ?_
          exact ih2 i300 (by omega) (by omega) _ _ _ hW hF (lv_sub hl [0, 1, 2] rfl)
        · refine lv_iconst (v := 1) hx hb dX1_isHeldBy_20 (by decide) ?_
          exact e_Z E hW rfl (by decide) ⟨⟨_, rfl, (by have hk : (1 : Int32).toInt = 1 := rfl; first | decide | omega)⟩, hF⟩ dX1_isHeldBy_21
  have hk302 : (0 : Int32).toInt = 0 := rfl
  exact L288 41 0 (by decide) (by omega) _ _ _ hW hF (lv_sub hl [0, 1, 2] rfl)
def ms_X1_keepSums : List (Nat × Nat) := [(1, 12), (1, 13), (1, 14)]
def po_X1_keepSums (kp : Nat → Nat) (L : List Nat) (f0 : Nat → va_E) (h0 : Nat) : Option Value → (Nat → va_E) → Prop := fun v f => v = none ∧ FM kp L ms_X1_keepSums f0 f
set_option maxHeartbeats 4000000 in
set_option maxRecDepth 100000 in
theorem c_X1_keepSums (l : Launch) (G : va_G) (cI cJ cZ cD cR cT : ClassId) (kp : Nat → Nat) (L : List Nat) (f0 : Nat → va_E) (hTH : TH cI cJ cZ cD cR cT kp L f0) (sz : Nat) (h0 : Nat) (rh0 : RK kp L h0 1) : Met l yX1_keepSums (Cond.code yX1_keepSums cX1_keepSums 1 none :: wTab) ({ frames := 2, cells := 0, slots := 0, locals := 63 }) (va_Pc [.ref h0] (PreW G (tys6 cI cJ cZ cD cR cT) (va_pl L f0) sz)) (QT (po_X1_keepSums kp L f0 h0) G cI cJ cZ cD cR cT (va_A (va_pl L f0) sz) kp L) 0 0 (va_A (va_pl L f0) sz) := by
  refine metT (by decide) (Nat.le_of_ble_eq_true rfl) hTH ?_
  intro p e s m below meth c A ls E hW hl
  obtain ⟨hx, hb, -, hml, hown, hts, -, -, -⟩ := id E
  have hF : FM kp L ms_X1_keepSums f0 f0 := FM.rf
  have hl : lv_has ls 1 [(0, .ref h0)] := hl
  refine lv_aload_n hx hb dX1_keepSums_0 rfl (lv_at hl 0 rfl) ?_
  refine lv_aload_n hx hb dX1_keepSums_1 rfl (lv_at hl 0 rfl) ?_
  refine fg_RX1_46 E hW rh0 dX1_keepSums_2 (fun y1 m2 b3 => ?_)
  refine fp_RX1_42 E hW rh0 dX1_keepSums_5 (fun f4 H locs e5 n6 g7 hW => ?_)
  have hF := FM.tr hF g7 rfl
  refine lv_aload_n hx hb dX1_keepSums_8 rfl (lv_at hl 0 rfl) ?_
  refine lv_aload_n hx hb dX1_keepSums_9 rfl (lv_at hl 0 rfl) ?_
  refine t_callV (As := []) (rest := [.ref h0]) E hW (c_X1_sumOfRents l G cI cJ cZ cD cR cT kp L f4 hW.2.2.2 _ h0 rh0) rh0 (by decide) rfl wk_X1_sumOfRents tw_1348 rfl ⟨Nat.le_of_ble_eq_true rfl, Nat.le_of_ble_eq_true rfl⟩ ⟨rfl, rfl⟩ hl.1 rfl (Nat.le_of_ble_eq_true rfl) dX1_keepSums_10 ⟨Nat.le_of_ble_eq_true rfl, Nat.le_of_ble_eq_true rfl⟩ (fun v8 f9 H locs q10 hW => ?_)
  obtain ⟨⟨x12, rfl, p13⟩, g11⟩ := q10
  clear p13
  have hF := FM.tr hF g11 rfl
  refine fp_RX1_62 E hW rh0 dX1_keepSums_13 (fun f14 H locs e15 n16 g17 hW => ?_)
  have hF := FM.tr hF g17 rfl
  refine lv_aload_n hx hb dX1_keepSums_16 rfl (lv_at hl 0 rfl) ?_
  refine lv_aload_n hx hb dX1_keepSums_17 rfl (lv_at hl 0 rfl) ?_
  refine t_callV (As := []) (rest := [.ref h0]) E hW (c_X1_sumByPlace l G cI cJ cZ cD cR cT kp L f14 hW.2.2.2 _ h0 rh0) rh0 (by decide) rfl wk_X1_sumByPlace tw_1352 rfl ⟨Nat.le_of_ble_eq_true rfl, Nat.le_of_ble_eq_true rfl⟩ ⟨rfl, rfl⟩ hl.1 rfl (Nat.le_of_ble_eq_true rfl) dX1_keepSums_18 ⟨Nat.le_of_ble_eq_true rfl, Nat.le_of_ble_eq_true rfl⟩ (fun v18 f19 H locs q20 hW => ?_)
  obtain ⟨⟨x22, rfl, p23⟩, g21⟩ := q20
  clear p23
  have hF := FM.tr hF g21 rfl
  refine fp_RX1_69 E hW rh0 dX1_keepSums_21 (fun f24 H locs e25 n26 g27 hW => ?_)
  have hF := FM.tr hF g27 rfl
  exact e_V E hW rfl ⟨rfl, hF⟩ dX1_keepSums_24
def ms_X1_rentOf : List (Nat × Nat) := []
def po_X1_rentOf (kp : Nat → Nat) (L : List Nat) (f0 : Nat → va_E) (h0 : Nat) (u1 : Int32) : Option Value → (Nat → va_E) → Prop := fun v f => (∃ r : Int32, v = some (.int r) ∧ ((0 : Int) ≤ r.toInt)) ∧ FM kp L ms_X1_rentOf f0 f
set_option maxHeartbeats 4000000 in
set_option maxRecDepth 100000 in
theorem c_X1_rentOf (l : Launch) (G : va_G) (cI cJ cZ cD cR cT : ClassId) (kp : Nat → Nat) (L : List Nat) (f0 : Nat → va_E) (hTH : TH cI cJ cZ cD cR cT kp L f0) (sz : Nat) (h0 : Nat) (u1 : Int32) (rh0 : RK kp L h0 1) (pu1 : (0 : Int) ≤ u1.toInt ∧ u1.toInt ≤ 39) : Met l yX1_rentOf (Cond.code yX1_rentOf cX1_rentOf 2 (some .int) :: wTab) ({ frames := 1, cells := 0, slots := 0, locals := 60 }) (va_Pc [.ref h0, .int u1] (PreW G (tys6 cI cJ cZ cD cR cT) (va_pl L f0) sz)) (QT (po_X1_rentOf kp L f0 h0 u1) G cI cJ cZ cD cR cT (va_A (va_pl L f0) sz) kp L) 0 0 (va_A (va_pl L f0) sz) := by
  refine metT (by decide) (Nat.le_of_ble_eq_true rfl) hTH ?_
  intro p e s m below meth c A ls E hW hl
  obtain ⟨hx, hb, -, hml, hown, hts, -, -, -⟩ := id E
  have hF : FM kp L ms_X1_rentOf f0 f0 := FM.rf
  have hl : lv_has ls 2 [(0, .ref h0), (1, .int u1)] := hl
  refine lv_aload_n hx hb dX1_rentOf_0 rfl (lv_at hl 0 rfl) ?_
  refine fg_RX1_18 E hW rh0 dX1_rentOf_1 (fun a1 m2 r3 => ?_)
  refine lv_iload_n hx hb dX1_rentOf_4 rfl (lv_at hl 1 rfl) ?_
  refine gl_163 E hW r3 ⟨by omega, by omega⟩ dX1_rentOf_5 (fun y4 m5 => ?_)
  refine lv_iconst (v := 0) hx hb dX1_rentOf_6 (by decide) ?_
  refine t_max (Y := 0) (own := RX1) E tw_713 ⟨tw_714, tw_115, tw_715⟩ hl.1 ⟨Nat.le_of_ble_eq_true rfl, Nat.le_of_ble_eq_true rfl⟩ ⟨Nat.le_of_ble_eq_true rfl, Nat.le_of_ble_eq_true rfl⟩ rfl rfl dX1_rentOf_7 (fun x7 h8 => ?_)
  exact e_I E hW rfl ⟨⟨_, rfl, (by first | omega | trivial)⟩, hF⟩ dX1_rentOf_10
def ms_X10_add : List (Nat × Nat) := [(10, 0), (701, 0), (702, 0), (703, 0), (704, 0), (705, 0), (706, 0)]
def po_X10_add (kp : Nat → Nat) (L : List Nat) (f0 : Nat → va_E) (h0 : Nat) (u1 : Int32) (u2 : Int32) (u3 : Int32) (u4 : Int32) : Option Value → (Nat → va_E) → Prop := fun v f => v = none ∧ FM kp L ms_X10_add f0 f
set_option maxHeartbeats 4000000 in
set_option maxRecDepth 100000 in
theorem c_X10_add (l : Launch) (G : va_G) (cI cJ cZ cD cR cT : ClassId) (kp : Nat → Nat) (L : List Nat) (f0 : Nat → va_E) (hTH : TH cI cJ cZ cD cR cT kp L f0) (sz : Nat) (h0 : Nat) (u1 : Int32) (u2 : Int32) (u3 : Int32) (u4 : Int32) (rh0 : RK kp L h0 10) (pu1 : (0 : Int) ≤ u1.toInt ∧ u1.toInt ≤ 39) (pu2 : (0 : Int) ≤ u2.toInt ∧ u2.toInt ≤ 39) (pu4 : (0 : Int) ≤ u4.toInt ∧ u4.toInt ≤ 399) : Met l yX10_add (Cond.code yX10_add cX10_add 5 none :: wTab) ({ frames := 1, cells := 0, slots := 0, locals := 40 }) (va_Pc [.ref h0, .int u1, .int u2, .int u3, .int u4] (PreW G (tys6 cI cJ cZ cD cR cT) (va_pl L f0) sz)) (QT (po_X10_add kp L f0 h0 u1 u2 u3 u4) G cI cJ cZ cD cR cT (va_A (va_pl L f0) sz) kp L) 0 0 (va_A (va_pl L f0) sz) := by
  refine metT (by decide) (Nat.le_of_ble_eq_true rfl) hTH ?_
  intro p e s m below meth c A ls E hW hl
  obtain ⟨hx, hb, -, hml, hown, hts, -, -, -⟩ := id E
  have hF : FM kp L ms_X10_add f0 f0 := FM.rf
  have hl : lv_has ls 5 [(0, .ref h0), (1, .int u1), (2, .int u2), (3, .int u3), (4, .int u4)] := hl
  refine lv_aload_n hx hb dX10_add_0 rfl (lv_at hl 0 rfl) ?_
  refine fg_RX10_39 E hW rh0 dX10_add_1 (fun y1 m2 b3 => ?_)
  refine lv_bipush (v := 60) hx hb dX10_add_4 (by decide) ?_
  refine q_icmp_lt (Y := 60) (tgt := 10) hx hb dX10_add_6 (by decide) rfl rfl (fun c4 => ?_) (fun c4 => ?_)
  · refine lv_aload_n hx hb dX10_add_10 rfl (lv_at hl 0 rfl) ?_
    refine fg_RX10_9 E hW rh0 dX10_add_11 (fun a5 m6 r7 => ?_)
    refine lv_aload_n hx hb dX10_add_14 rfl (lv_at hl 0 rfl) ?_
    refine fg_RX10_39 E hW rh0 dX10_add_15 (fun y8 m9 b10 => ?_)
    obtain rfl : y1 = y8 := (m2).symm.trans m9
    refine lv_iload_n hx hb dX10_add_18 rfl (lv_at hl 1 rfl) ?_
    refine gs_701 E hW r7 ⟨by omega, by omega⟩ (by omega) dX10_add_19 (fun f11 H locs e12 n13 g14 hW => ?_)
    have hF := FM.tr hF g14 rfl
    refine lv_aload_n hx hb dX10_add_20 rfl (lv_at hl 0 rfl) ?_
    refine fg_RX10_15 E hW rh0 dX10_add_21 (fun a15 m16 r17 => ?_)
    refine lv_aload_n hx hb dX10_add_24 rfl (lv_at hl 0 rfl) ?_
    refine fg_RX10_39 E hW rh0 dX10_add_25 (fun y18 m19 b20 => ?_)
    obtain rfl : y1 = y18 := (((fm_I g14 rh0 rfl).trans m9)).symm.trans m19
    refine lv_iload_n hx hb dX10_add_28 rfl (lv_at hl 2 rfl) ?_
    refine gs_702 E hW r17 ⟨by omega, by omega⟩ (by omega) dX10_add_29 (fun f21 H locs e22 n23 g24 hW => ?_)
    have hF := FM.tr hF g24 rfl
    refine lv_aload_n hx hb dX10_add_30 rfl (lv_at hl 0 rfl) ?_
    refine fg_RX10_18 E hW rh0 dX10_add_31 (fun a25 m26 r27 => ?_)
    refine lv_aload_n hx hb dX10_add_34 rfl (lv_at hl 0 rfl) ?_
    refine fg_RX10_39 E hW rh0 dX10_add_35 (fun y28 m29 b30 => ?_)
    obtain rfl : y1 = y28 := (((fm_I g24 rh0 rfl).trans m19)).symm.trans m29
    refine lv_iconst (v := 0) hx hb dX10_add_38 (by decide) ?_
    refine gs_703 E hW r27 ⟨by omega, by omega⟩ dX10_add_39 (fun f31 H locs e32 n33 g34 hW => ?_)
    have hF := FM.tr hF g34 rfl
    refine lv_aload_n hx hb dX10_add_40 rfl (lv_at hl 0 rfl) ?_
    refine fg_RX10_21 E hW rh0 dX10_add_41 (fun a35 m36 r37 => ?_)
    refine lv_aload_n hx hb dX10_add_44 rfl (lv_at hl 0 rfl) ?_
    refine fg_RX10_39 E hW rh0 dX10_add_45 (fun y38 m39 b40 => ?_)
    obtain rfl : y1 = y38 := (((fm_I g34 rh0 rfl).trans m29)).symm.trans m39
    refine lv_iload_n hx hb dX10_add_48 rfl (lv_at hl 3 rfl) ?_
    refine gs_704 E hW r37 ⟨by omega, by omega⟩ dX10_add_49 (fun f41 H locs e42 n43 g44 hW => ?_)
    have hF := FM.tr hF g44 rfl
    refine lv_aload_n hx hb dX10_add_50 rfl (lv_at hl 0 rfl) ?_
    refine fg_RX10_24 E hW rh0 dX10_add_51 (fun a45 m46 r47 => ?_)
    refine lv_aload_n hx hb dX10_add_54 rfl (lv_at hl 0 rfl) ?_
    refine fg_RX10_39 E hW rh0 dX10_add_55 (fun y48 m49 b50 => ?_)
    obtain rfl : y1 = y48 := (((fm_I g44 rh0 rfl).trans m39)).symm.trans m49
    refine lv_iload hx hb dX10_add_58 (lv_at hl 4 rfl) ?_
    refine gs_705 E hW r47 ⟨by omega, by omega⟩ dX10_add_60 (fun f51 H locs e52 n53 g54 hW => ?_)
    have hF := FM.tr hF g54 rfl
    refine lv_aload_n hx hb dX10_add_61 rfl (lv_at hl 0 rfl) ?_
    refine fg_RX10_27 E hW rh0 dX10_add_62 (fun a55 m56 r57 => ?_)
    refine lv_aload_n hx hb dX10_add_65 rfl (lv_at hl 0 rfl) ?_
    refine fg_RX10_39 E hW rh0 dX10_add_66 (fun y58 m59 b60 => ?_)
    obtain rfl : y1 = y58 := (((fm_I g54 rh0 rfl).trans m49)).symm.trans m59
    refine lv_iconst (v := 1) hx hb dX10_add_69 (by decide) ?_
    refine gs_706 E hW r57 ⟨by omega, by omega⟩ dX10_add_70 (fun f61 H locs e62 n63 g64 hW => ?_)
    have hF := FM.tr hF g64 rfl
    refine lv_aload_n hx hb dX10_add_71 rfl (lv_at hl 0 rfl) ?_
    refine lv_dup hx hb dX10_add_72 rfl ?_
    refine fg_RX10_39 E hW rh0 dX10_add_73 (fun y65 m66 b67 => ?_)
    obtain rfl : y1 = y65 := (((fm_I g64 rh0 rfl).trans m59)).symm.trans m66
    refine lv_iconst (v := 1) hx hb dX10_add_76 (by decide) ?_
    refine q_iadd (Y := 1) hx hb dX10_add_77 rfl rfl (by omega) (fun x68 h69 => ?_)
    refine fp_RX10_39 E hW rh0 (by omega) dX10_add_78 (fun f70 H locs e71 n72 g73 hW => ?_)
    have hF := FM.tr hF g73 rfl
    exact e_V E hW rfl ⟨rfl, hF⟩ dX10_add_81
  · exact e_V E hW rfl ⟨rfl, hF⟩ dX10_add_9
def ms_X10_addGuard : List (Nat × Nat) := [(10, 7), (708, 0), (709, 0), (710, 0)]
def po_X10_addGuard (kp : Nat → Nat) (L : List Nat) (f0 : Nat → va_E) (h0 : Nat) (u1 : Int32) (u2 : Int32) (u3 : Int32) : Option Value → (Nat → va_E) → Prop := fun v f => v = none ∧ FM kp L ms_X10_addGuard f0 f
set_option maxHeartbeats 4000000 in
set_option maxRecDepth 100000 in
theorem c_X10_addGuard (l : Launch) (G : va_G) (cI cJ cZ cD cR cT : ClassId) (kp : Nat → Nat) (L : List Nat) (f0 : Nat → va_E) (hTH : TH cI cJ cZ cD cR cT kp L f0) (sz : Nat) (h0 : Nat) (u1 : Int32) (u2 : Int32) (u3 : Int32) (rh0 : RK kp L h0 10) (pu1 : (0 : Int) ≤ u1.toInt ∧ u1.toInt ≤ 39) (pu2 : (0 : Int) ≤ u2.toInt ∧ u2.toInt ≤ 399) (pu3 : (0 : Int) ≤ u3.toInt ∧ u3.toInt ≤ 399) : Met l yX10_addGuard (Cond.code yX10_addGuard cX10_addGuard 4 none :: wTab) ({ frames := 1, cells := 0, slots := 0, locals := 40 }) (va_Pc [.ref h0, .int u1, .int u2, .int u3] (PreW G (tys6 cI cJ cZ cD cR cT) (va_pl L f0) sz)) (QT (po_X10_addGuard kp L f0 h0 u1 u2 u3) G cI cJ cZ cD cR cT (va_A (va_pl L f0) sz) kp L) 0 0 (va_A (va_pl L f0) sz) := by
  refine metT (by decide) (Nat.le_of_ble_eq_true rfl) hTH ?_
  intro p e s m below meth c A ls E hW hl
  obtain ⟨hx, hb, -, hml, hown, hts, -, -, -⟩ := id E
  have hF : FM kp L ms_X10_addGuard f0 f0 := FM.rf
  have hl : lv_has ls 4 [(0, .ref h0), (1, .int u1), (2, .int u2), (3, .int u3)] := hl
  refine lv_aload_n hx hb dX10_addGuard_0 rfl (lv_at hl 0 rfl) ?_
  refine fg_RX10_43 E hW rh0 dX10_addGuard_1 (fun y1 m2 b3 => ?_)
  refine lv_bipush (v := 40) hx hb dX10_addGuard_4 (by decide) ?_
  refine q_icmp_lt (Y := 40) (tgt := 10) hx hb dX10_addGuard_6 (by decide) rfl rfl (fun c4 => ?_) (fun c4 => ?_)
  · refine lv_aload_n hx hb dX10_addGuard_10 rfl (lv_at hl 0 rfl) ?_
    refine fg_RX10_30 E hW rh0 dX10_addGuard_11 (fun a5 m6 r7 => ?_)
    refine lv_aload_n hx hb dX10_addGuard_14 rfl (lv_at hl 0 rfl) ?_
    refine fg_RX10_43 E hW rh0 dX10_addGuard_15 (fun y8 m9 b10 => ?_)
    obtain rfl : y1 = y8 := (m2).symm.trans m9
    refine lv_iload_n hx hb dX10_addGuard_18 rfl (lv_at hl 1 rfl) ?_
    refine gs_708 E hW r7 ⟨by omega, by omega⟩ dX10_addGuard_19 (fun f11 H locs e12 n13 g14 hW => ?_)
    have hF := FM.tr hF g14 rfl
    refine lv_aload_n hx hb dX10_addGuard_20 rfl (lv_at hl 0 rfl) ?_
    refine fg_RX10_33 E hW rh0 dX10_addGuard_21 (fun a15 m16 r17 => ?_)
    refine lv_aload_n hx hb dX10_addGuard_24 rfl (lv_at hl 0 rfl) ?_
    refine fg_RX10_43 E hW rh0 dX10_addGuard_25 (fun y18 m19 b20 => ?_)
    obtain rfl : y1 = y18 := (((fm_I g14 rh0 rfl).trans m9)).symm.trans m19
    refine lv_iload_n hx hb dX10_addGuard_28 rfl (lv_at hl 2 rfl) ?_
    refine gs_709 E hW r17 ⟨by omega, by omega⟩ dX10_addGuard_29 (fun f21 H locs e22 n23 g24 hW => ?_)
    have hF := FM.tr hF g24 rfl
    refine lv_aload_n hx hb dX10_addGuard_30 rfl (lv_at hl 0 rfl) ?_
    refine fg_RX10_36 E hW rh0 dX10_addGuard_31 (fun a25 m26 r27 => ?_)
    refine lv_aload_n hx hb dX10_addGuard_34 rfl (lv_at hl 0 rfl) ?_
    refine fg_RX10_43 E hW rh0 dX10_addGuard_35 (fun y28 m29 b30 => ?_)
    obtain rfl : y1 = y28 := (((fm_I g24 rh0 rfl).trans m19)).symm.trans m29
    refine lv_iload_n hx hb dX10_addGuard_38 rfl (lv_at hl 3 rfl) ?_
    refine gs_710 E hW r27 ⟨by omega, by omega⟩ dX10_addGuard_39 (fun f31 H locs e32 n33 g34 hW => ?_)
    have hF := FM.tr hF g34 rfl
    refine lv_aload_n hx hb dX10_addGuard_40 rfl (lv_at hl 0 rfl) ?_
    refine lv_dup hx hb dX10_addGuard_41 rfl ?_
    refine fg_RX10_43 E hW rh0 dX10_addGuard_42 (fun y35 m36 b37 => ?_)
    obtain rfl : y1 = y35 := (((fm_I g34 rh0 rfl).trans m29)).symm.trans m36
    refine lv_iconst (v := 1) hx hb dX10_addGuard_45 (by decide) ?_
    refine q_iadd (Y := 1) hx hb dX10_addGuard_46 rfl rfl (by omega) (fun x38 h39 => ?_)
    refine fp_RX10_43 E hW rh0 (by omega) dX10_addGuard_47 (fun f40 H locs e41 n42 g43 hW => ?_)
    have hF := FM.tr hF g43 rfl
    exact e_V E hW rfl ⟨rfl, hF⟩ dX10_addGuard_50
  · exact e_V E hW rfl ⟨rfl, hF⟩ dX10_addGuard_9
def ms_X10_copyFrom : List (Nat × Nat) := [(10, 0), (10, 7), (701, 0), (702, 0), (703, 0), (704, 0), (705, 0), (706, 0), (708, 0), (709, 0), (710, 0)]
def po_X10_copyFrom (kp : Nat → Nat) (L : List Nat) (f0 : Nat → va_E) (h0 : Nat) (u1 : Nat) : Option Value → (Nat → va_E) → Prop := fun v f => v = none ∧ FM kp L ms_X10_copyFrom f0 f
set_option maxHeartbeats 4000000 in
set_option maxRecDepth 100000 in
theorem c_X10_copyFrom (l : Launch) (G : va_G) (cI cJ cZ cD cR cT : ClassId) (kp : Nat → Nat) (L : List Nat) (f0 : Nat → va_E) (hTH : TH cI cJ cZ cD cR cT kp L f0) (sz : Nat) (h0 : Nat) (u1 : Nat) (rh0 : RK kp L h0 10) (ru1 : RK kp L u1 10) : Met l yX10_copyFrom (Cond.code yX10_copyFrom cX10_copyFrom 2 none :: wTab) ({ frames := 1, cells := 0, slots := 0, locals := 60 }) (va_Pc [.ref h0, .ref u1] (PreW G (tys6 cI cJ cZ cD cR cT) (va_pl L f0) sz)) (QT (po_X10_copyFrom kp L f0 h0 u1) G cI cJ cZ cD cR cT (va_A (va_pl L f0) sz) kp L) 0 0 (va_A (va_pl L f0) sz) := by
  refine metT (by decide) (Nat.le_of_ble_eq_true rfl) hTH ?_
  intro p e s m below meth c A ls E hW hl
  obtain ⟨hx, hb, -, hml, hown, hts, -, -, -⟩ := id E
  have hF : FM kp L ms_X10_copyFrom f0 f0 := FM.rf
  have hl : lv_has ls 2 [(0, .ref h0), (1, .ref u1)] := hl
  refine lv_aload_n hx hb dX10_copyFrom_0 rfl (lv_at hl 0 rfl) ?_
  refine lv_aload_n hx hb dX10_copyFrom_1 rfl (lv_at hl 1 rfl) ?_
  refine fg_RX10_39 E hW ru1 dX10_copyFrom_2 (fun y1 m2 b3 => ?_)
  refine fp_RX10_39 E hW rh0 (by omega) dX10_copyFrom_5 (fun f4 H locs e5 n6 g7 hW => ?_)
  have hF := FM.tr hF g7 rfl
  refine lv_aload_n hx hb dX10_copyFrom_8 rfl (lv_at hl 1 rfl) ?_
  refine fg_RX10_9 E hW ru1 dX10_copyFrom_9 (fun a8 m9 r10 => ?_)
  refine lv_iconst (v := 0) hx hb dX10_copyFrom_12 (by decide) ?_
  refine lv_aload_n hx hb dX10_copyFrom_13 rfl (lv_at hl 0 rfl) ?_
  refine fg_RX10_9 E hW rh0 dX10_copyFrom_14 (fun a11 m12 r13 => ?_)
  refine lv_iconst (v := 0) hx hb dX10_copyFrom_17 (by decide) ?_
  refine lv_bipush (v := 60) hx hb dX10_copyFrom_18 (by decide) ?_
  refine t_copy (N := 60) (n0 := 60) (n1 := 60) E hW tw_1303 ⟨tw_1004, tw_1003, tw_122⟩ hl.1 rfl r10 (by decide) rfl r13 (by decide) rfl rfl (by decide) rfl (by decide) (by decide) (by decide) (fun h0 h1 => AB_cpy h0 h1) ⟨Nat.le_of_ble_eq_true rfl, Nat.le_of_ble_eq_true rfl⟩ dX10_copyFrom_20 (fun f14 H locs n16 g17 hW => ?_)
  have hF := FM.tr hF g17 rfl
  refine lv_aload_n hx hb dX10_copyFrom_23 rfl (lv_at hl 1 rfl) ?_
  refine fg_RX10_15 E hW ru1 dX10_copyFrom_24 (fun a18 m19 r20 => ?_)
  refine lv_iconst (v := 0) hx hb dX10_copyFrom_27 (by decide) ?_
  refine lv_aload_n hx hb dX10_copyFrom_28 rfl (lv_at hl 0 rfl) ?_
  refine fg_RX10_15 E hW rh0 dX10_copyFrom_29 (fun a21 m22 r23 => ?_)
  refine lv_iconst (v := 0) hx hb dX10_copyFrom_32 (by decide) ?_
  refine lv_bipush (v := 60) hx hb dX10_copyFrom_33 (by decide) ?_
  refine t_copy (N := 60) (n0 := 60) (n1 := 60) E hW tw_1303 ⟨tw_1004, tw_1003, tw_122⟩ hl.1 rfl r20 (by decide) rfl r23 (by decide) rfl rfl (by decide) rfl (by decide) (by decide) (by decide) (fun h0 h1 => AB_cpy h0 h1) ⟨Nat.le_of_ble_eq_true rfl, Nat.le_of_ble_eq_true rfl⟩ dX10_copyFrom_35 (fun f24 H locs n26 g27 hW => ?_)
  have hF := FM.tr hF g27 rfl
  refine lv_aload_n hx hb dX10_copyFrom_38 rfl (lv_at hl 1 rfl) ?_
  refine fg_RX10_18 E hW ru1 dX10_copyFrom_39 (fun a28 m29 r30 => ?_)
  refine lv_iconst (v := 0) hx hb dX10_copyFrom_42 (by decide) ?_
  refine lv_aload_n hx hb dX10_copyFrom_43 rfl (lv_at hl 0 rfl) ?_
  refine fg_RX10_18 E hW rh0 dX10_copyFrom_44 (fun a31 m32 r33 => ?_)
  refine lv_iconst (v := 0) hx hb dX10_copyFrom_47 (by decide) ?_
  refine lv_bipush (v := 60) hx hb dX10_copyFrom_48 (by decide) ?_
  refine t_copy (N := 60) (n0 := 60) (n1 := 60) E hW tw_1303 ⟨tw_1004, tw_1003, tw_122⟩ hl.1 rfl r30 (by decide) rfl r33 (by decide) rfl rfl (by decide) rfl (by decide) (by decide) (by decide) (fun _ _ => trivial) ⟨Nat.le_of_ble_eq_true rfl, Nat.le_of_ble_eq_true rfl⟩ dX10_copyFrom_50 (fun f34 H locs n36 g37 hW => ?_)
  have hF := FM.tr hF g37 rfl
  refine lv_aload_n hx hb dX10_copyFrom_53 rfl (lv_at hl 1 rfl) ?_
  refine fg_RX10_21 E hW ru1 dX10_copyFrom_54 (fun a38 m39 r40 => ?_)
  refine lv_iconst (v := 0) hx hb dX10_copyFrom_57 (by decide) ?_
  refine lv_aload_n hx hb dX10_copyFrom_58 rfl (lv_at hl 0 rfl) ?_
  refine fg_RX10_21 E hW rh0 dX10_copyFrom_59 (fun a41 m42 r43 => ?_)
  refine lv_iconst (v := 0) hx hb dX10_copyFrom_62 (by decide) ?_
  refine lv_bipush (v := 60) hx hb dX10_copyFrom_63 (by decide) ?_
  refine t_copy (N := 60) (n0 := 60) (n1 := 60) E hW tw_1303 ⟨tw_1004, tw_1003, tw_122⟩ hl.1 rfl r40 (by decide) rfl r43 (by decide) rfl rfl (by decide) rfl (by decide) (by decide) (by decide) (fun _ _ => trivial) ⟨Nat.le_of_ble_eq_true rfl, Nat.le_of_ble_eq_true rfl⟩ dX10_copyFrom_65 (fun f44 H locs n46 g47 hW => ?_)
  have hF := FM.tr hF g47 rfl
  refine lv_aload_n hx hb dX10_copyFrom_68 rfl (lv_at hl 1 rfl) ?_
  refine fg_RX10_24 E hW ru1 dX10_copyFrom_69 (fun a48 m49 r50 => ?_)
  refine lv_iconst (v := 0) hx hb dX10_copyFrom_72 (by decide) ?_
  refine lv_aload_n hx hb dX10_copyFrom_73 rfl (lv_at hl 0 rfl) ?_
  refine fg_RX10_24 E hW rh0 dX10_copyFrom_74 (fun a51 m52 r53 => ?_)
  refine lv_iconst (v := 0) hx hb dX10_copyFrom_77 (by decide) ?_
  refine lv_bipush (v := 60) hx hb dX10_copyFrom_78 (by decide) ?_
  refine t_copy (N := 60) (n0 := 60) (n1 := 60) E hW tw_1303 ⟨tw_1004, tw_1003, tw_122⟩ hl.1 rfl r50 (by decide) rfl r53 (by decide) rfl rfl (by decide) rfl (by decide) (by decide) (by decide) (fun _ _ => trivial) ⟨Nat.le_of_ble_eq_true rfl, Nat.le_of_ble_eq_true rfl⟩ dX10_copyFrom_80 (fun f54 H locs n56 g57 hW => ?_)
  have hF := FM.tr hF g57 rfl
  refine lv_aload_n hx hb dX10_copyFrom_83 rfl (lv_at hl 1 rfl) ?_
  refine fg_RX10_27 E hW ru1 dX10_copyFrom_84 (fun a58 m59 r60 => ?_)
  refine lv_iconst (v := 0) hx hb dX10_copyFrom_87 (by decide) ?_
  refine lv_aload_n hx hb dX10_copyFrom_88 rfl (lv_at hl 0 rfl) ?_
  refine fg_RX10_27 E hW rh0 dX10_copyFrom_89 (fun a61 m62 r63 => ?_)
  refine lv_iconst (v := 0) hx hb dX10_copyFrom_92 (by decide) ?_
  refine lv_bipush (v := 60) hx hb dX10_copyFrom_93 (by decide) ?_
  refine t_copy (N := 60) (n0 := 60) (n1 := 60) E hW tw_1303 ⟨tw_1004, tw_1003, tw_122⟩ hl.1 rfl r60 (by decide) rfl r63 (by decide) rfl rfl (by decide) rfl (by decide) (by decide) (by decide) (fun _ _ => trivial) ⟨Nat.le_of_ble_eq_true rfl, Nat.le_of_ble_eq_true rfl⟩ dX10_copyFrom_95 (fun f64 H locs n66 g67 hW => ?_)
  have hF := FM.tr hF g67 rfl
  refine lv_aload_n hx hb dX10_copyFrom_98 rfl (lv_at hl 0 rfl) ?_
  refine lv_aload_n hx hb dX10_copyFrom_99 rfl (lv_at hl 1 rfl) ?_
  refine fg_RX10_43 E hW ru1 dX10_copyFrom_100 (fun y68 m69 b70 => ?_)
  refine fp_RX10_43 E hW rh0 (by omega) dX10_copyFrom_103 (fun f71 H locs e72 n73 g74 hW => ?_)
  have hF := FM.tr hF g74 rfl
  refine lv_aload_n hx hb dX10_copyFrom_106 rfl (lv_at hl 1 rfl) ?_
  refine fg_RX10_30 E hW ru1 dX10_copyFrom_107 (fun a75 m76 r77 => ?_)
  refine lv_iconst (v := 0) hx hb dX10_copyFrom_110 (by decide) ?_
  refine lv_aload_n hx hb dX10_copyFrom_111 rfl (lv_at hl 0 rfl) ?_
  refine fg_RX10_30 E hW rh0 dX10_copyFrom_112 (fun a78 m79 r80 => ?_)
  refine lv_iconst (v := 0) hx hb dX10_copyFrom_115 (by decide) ?_
  refine lv_bipush (v := 40) hx hb dX10_copyFrom_116 (by decide) ?_
  refine t_copy (N := 40) (n0 := 40) (n1 := 40) E hW tw_1303 ⟨tw_1004, tw_1003, tw_122⟩ hl.1 rfl r77 (by decide) rfl r80 (by decide) rfl rfl (by decide) rfl (by decide) (by decide) (by decide) (fun _ _ => trivial) ⟨Nat.le_of_ble_eq_true rfl, Nat.le_of_ble_eq_true rfl⟩ dX10_copyFrom_118 (fun f81 H locs n83 g84 hW => ?_)
  have hF := FM.tr hF g84 rfl
  refine lv_aload_n hx hb dX10_copyFrom_121 rfl (lv_at hl 1 rfl) ?_
  refine fg_RX10_33 E hW ru1 dX10_copyFrom_122 (fun a85 m86 r87 => ?_)
  refine lv_iconst (v := 0) hx hb dX10_copyFrom_125 (by decide) ?_
  refine lv_aload_n hx hb dX10_copyFrom_126 rfl (lv_at hl 0 rfl) ?_
  refine fg_RX10_33 E hW rh0 dX10_copyFrom_127 (fun a88 m89 r90 => ?_)
  refine lv_iconst (v := 0) hx hb dX10_copyFrom_130 (by decide) ?_
  refine lv_bipush (v := 40) hx hb dX10_copyFrom_131 (by decide) ?_
  refine t_copy (N := 40) (n0 := 40) (n1 := 40) E hW tw_1303 ⟨tw_1004, tw_1003, tw_122⟩ hl.1 rfl r87 (by decide) rfl r90 (by decide) rfl rfl (by decide) rfl (by decide) (by decide) (by decide) (fun _ _ => trivial) ⟨Nat.le_of_ble_eq_true rfl, Nat.le_of_ble_eq_true rfl⟩ dX10_copyFrom_133 (fun f91 H locs n93 g94 hW => ?_)
  have hF := FM.tr hF g94 rfl
  refine lv_aload_n hx hb dX10_copyFrom_136 rfl (lv_at hl 1 rfl) ?_
  refine fg_RX10_36 E hW ru1 dX10_copyFrom_137 (fun a95 m96 r97 => ?_)
  refine lv_iconst (v := 0) hx hb dX10_copyFrom_140 (by decide) ?_
  refine lv_aload_n hx hb dX10_copyFrom_141 rfl (lv_at hl 0 rfl) ?_
  refine fg_RX10_36 E hW rh0 dX10_copyFrom_142 (fun a98 m99 r100 => ?_)
  refine lv_iconst (v := 0) hx hb dX10_copyFrom_145 (by decide) ?_
  refine lv_bipush (v := 40) hx hb dX10_copyFrom_146 (by decide) ?_
  refine t_copy (N := 40) (n0 := 40) (n1 := 40) E hW tw_1303 ⟨tw_1004, tw_1003, tw_122⟩ hl.1 rfl r97 (by decide) rfl r100 (by decide) rfl rfl (by decide) rfl (by decide) (by decide) (by decide) (fun _ _ => trivial) ⟨Nat.le_of_ble_eq_true rfl, Nat.le_of_ble_eq_true rfl⟩ dX10_copyFrom_148 (fun f101 H locs n103 g104 hW => ?_)
  have hF := FM.tr hF g104 rfl
  exact e_V E hW rfl ⟨rfl, hF⟩ dX10_copyFrom_151
def ms_X10_isGuarded : List (Nat × Nat) := []
def po_X10_isGuarded (kp : Nat → Nat) (L : List Nat) (f0 : Nat → va_E) (h0 : Nat) (u1 : Int32) (u2 : Int32) : Option Value → (Nat → va_E) → Prop := fun v f => (∃ r : Int32, v = some (.int r) ∧ ((0 : Int) ≤ r.toInt ∧ r.toInt ≤ 1)) ∧ FM kp L ms_X10_isGuarded f0 f
set_option maxHeartbeats 4000000 in
set_option maxRecDepth 100000 in
theorem c_X10_isGuarded (l : Launch) (G : va_G) (cI cJ cZ cD cR cT : ClassId) (kp : Nat → Nat) (L : List Nat) (f0 : Nat → va_E) (hTH : TH cI cJ cZ cD cR cT kp L f0) (sz : Nat) (h0 : Nat) (u1 : Int32) (u2 : Int32) (rh0 : RK kp L h0 10) (pu1 : (0 : Int) ≤ u1.toInt ∧ u1.toInt ≤ 39) (pu2 : (0 : Int) ≤ u2.toInt ∧ u2.toInt ≤ 399) : Met l yX10_isGuarded (Cond.code yX10_isGuarded cX10_isGuarded 4 (some .boolean) :: wTab) ({ frames := 1, cells := 0, slots := 0, locals := 40 }) (va_Pc [.ref h0, .int u1, .int u2] (PreW G (tys6 cI cJ cZ cD cR cT) (va_pl L f0) sz)) (QT (po_X10_isGuarded kp L f0 h0 u1 u2) G cI cJ cZ cD cR cT (va_A (va_pl L f0) sz) kp L) 0 0 (va_A (va_pl L f0) sz) := by
  refine metT (by decide) (Nat.le_of_ble_eq_true rfl) hTH ?_
  intro p e s m below meth c A ls E hW hl
  obtain ⟨hx, hb, -, hml, hown, hts, -, -, -⟩ := id E
  have hF : FM kp L ms_X10_isGuarded f0 f0 := FM.rf
  have hl : lv_has ls 4 [(0, .ref h0), (1, .int u1), (2, .int u2)] := hl
  refine lv_iconst (v := 0) hx hb dX10_isGuarded_0 (by decide) ?_
  refine lv_istore_n (lv' := [(3, .int 0), (0, .ref h0), (1, .int u1), (2, .int u2)]) hx hb dX10_isGuarded_1 rfl hl (by decide) rfl (fun ls hl => ?_)
  have L630 : ∀ (n : Nat), ∀ (y628 : Int32) (b629 : (0 : Int) ≤ y628.toInt ∧ y628.toInt ≤ 40) (hm : (41 : Int) - y628.toInt ≤ n) (H : Heap) (locs : List Loc) (ls : Array Slot), WS G cI cJ cZ cD cR cT A kp L f0 s H locs → FM kp L ms_X10_isGuarded f0 f0 → lv_has ls 4 [(3, .int y628), (0, .ref h0), (1, .int u1), (2, .int u2)] → W p l e ({ frames := 1, cells := 0, slots := 0, locals := 40 }) s m ([.ref h0, .int u1, .int u2] : List Value).toArray below meth c H locs 0 0 (MQ below (QT (po_X10_isGuarded kp L f0 h0 u1 u2) G cI cJ cZ cD cR cT A kp L) ([.ref h0, .int u1, .int u2] : List Value).toArray s 0 0 A) (F0 m 2 ls []) := by
    intro n
    induction n with
    | zero =>
      intro y628 b629 hm H locs ls hW hF hl
      have hz := i32_b y628
      exfalso; omega
    | succ n ih =>
      intro y628 b629 hm H locs ls hW hF hl
      have ih2 := ih
      refine lv_iload_n hx hb dX10_isGuarded_2 rfl (lv_at hl 0 rfl) ?_
      refine lv_aload_n hx hb dX10_isGuarded_3 rfl (lv_at hl 1 rfl) ?_
      refine fg_RX10_43 E hW rh0 dX10_isGuarded_4 (fun y631 m632 b633 => ?_)
      refine q_icmp_ge (tgt := 48) hx hb dX10_isGuarded_7 (by decide) rfl rfl (fun c634 => ?_) (fun c634 => ?_)
      · refine lv_iconst (v := 0) hx hb dX10_isGuarded_48 (by decide) ?_
        exact e_Z E hW rfl (by decide) ⟨⟨_, rfl, (by have hk : (0 : Int32).toInt = 0 := rfl; first | decide | omega)⟩, hF⟩ dX10_isGuarded_49
      · refine lv_aload_n hx hb dX10_isGuarded_10 rfl (lv_at hl 1 rfl) ?_
        refine fg_RX10_30 E hW rh0 dX10_isGuarded_11 (fun a635 m636 r637 => ?_)
        refine lv_iload_n hx hb dX10_isGuarded_14 rfl (lv_at hl 0 rfl) ?_
        refine gl_708 E hW r637 ⟨by omega, by omega⟩ dX10_isGuarded_15 (fun y638 m639 => ?_)
        refine lv_iload_n hx hb dX10_isGuarded_16 rfl (lv_at hl 2 rfl) ?_
        refine q_icmp_ne (tgt := 42) hx hb dX10_isGuarded_17 (by decide) rfl rfl (fun c641 => ?_) (fun c641 => ?_)
        · refine q_iinc hx hb dX10_isGuarded_42 hl (k := 0) rfl rfl rfl (by omega) (by decide) (fun i642 ls h643 hl => ?_)
          have hl : lv_has ls 4 [(3, .int i642), (0, .ref h0), (1, .int u1), (2, .int u2)] := hl
          refine lv_goto (tgt := 2) hx hb dX10_isGuarded_45 (by decide) ?_
          exact ih2 i642 (by omega) (by omega) _ _ _ hW hF (lv_sub hl [0, 1, 2, 3] rfl)
        · refine lv_iload_n hx hb dX10_isGuarded_20 rfl (lv_at hl 3 rfl) ?_
          refine lv_aload_n hx hb dX10_isGuarded_21 rfl (lv_at hl 1 rfl) ?_
          refine fg_RX10_33 E hW rh0 dX10_isGuarded_22 (fun a644 m645 r646 => ?_)
          refine lv_iload_n hx hb dX10_isGuarded_25 rfl (lv_at hl 0 rfl) ?_
          refine gl_709 E hW r646 ⟨by omega, by omega⟩ dX10_isGuarded_26 (fun y647 m648 => ?_)
          refine q_icmp_lt (tgt := 42) hx hb dX10_isGuarded_27 (by decide) rfl rfl (fun c650 => ?_) (fun c650 => ?_)
          · refine q_iinc hx hb dX10_isGuarded_42 hl (k := 0) rfl rfl rfl (by omega) (by decide) (fun i651 ls h652 hl => ?_)
            have hl : lv_has ls 4 [(3, .int i651), (0, .ref h0), (1, .int u1), (2, .int u2)] := hl
            refine lv_goto (tgt := 2) hx hb dX10_isGuarded_45 (by decide) ?_
            exact ih2 i651 (by omega) (by omega) _ _ _ hW hF (lv_sub hl [0, 1, 2, 3] rfl)
          · refine lv_iload_n hx hb dX10_isGuarded_30 rfl (lv_at hl 3 rfl) ?_
            refine lv_aload_n hx hb dX10_isGuarded_31 rfl (lv_at hl 1 rfl) ?_
            refine fg_RX10_36 E hW rh0 dX10_isGuarded_32 (fun a653 m654 r655 => ?_)
            refine lv_iload_n hx hb dX10_isGuarded_35 rfl (lv_at hl 0 rfl) ?_
            refine gl_710 E hW r655 ⟨by omega, by omega⟩ dX10_isGuarded_36 (fun y656 m657 => ?_)
            refine q_icmp_gt (tgt := 42) hx hb dX10_isGuarded_37 (by decide) rfl rfl (fun c659 => ?_) (fun c659 => ?_)
            · refine q_iinc hx hb dX10_isGuarded_42 hl (k := 0) rfl rfl rfl (by omega) (by decide) (fun i660 ls h661 hl => ?_)
              have hl : lv_has ls 4 [(3, .int i660), (0, .ref h0), (1, .int u1), (2, .int u2)] := hl
              refine lv_goto (tgt := 2) hx hb dX10_isGuarded_45 (by decide) ?_
              exact ih2 i660 (by omega) (by omega) _ _ _ hW hF (lv_sub hl [0, 1, 2, 3] rfl)
            · refine lv_iconst (v := 1) hx hb dX10_isGuarded_40 (by decide) ?_
              exact e_Z E hW rfl (by decide) ⟨⟨_, rfl, (by have hk : (1 : Int32).toInt = 1 := rfl; first | decide | omega)⟩, hF⟩ dX10_isGuarded_41
  have hk662 : (0 : Int32).toInt = 0 := rfl
  exact L630 41 0 (by decide) (by omega) _ _ _ hW hF (lv_sub hl [0, 1, 2, 3] rfl)
def ms_X10_openOn : List (Nat × Nat) := []
def po_X10_openOn (kp : Nat → Nat) (L : List Nat) (f0 : Nat → va_E) (h0 : Nat) (u1 : Int32) : Option Value → (Nat → va_E) → Prop := fun v f => (∃ r : Int32, v = some (.int r) ∧ ((-1 : Int) ≤ r.toInt ∧ r.toInt ≤ 59)) ∧ FM kp L ms_X10_openOn f0 f
set_option maxHeartbeats 4000000 in
set_option maxRecDepth 100000 in
theorem c_X10_openOn (l : Launch) (G : va_G) (cI cJ cZ cD cR cT : ClassId) (kp : Nat → Nat) (L : List Nat) (f0 : Nat → va_E) (hTH : TH cI cJ cZ cD cR cT kp L f0) (sz : Nat) (h0 : Nat) (u1 : Int32) (rh0 : RK kp L h0 10) (pu1 : (0 : Int) ≤ u1.toInt ∧ u1.toInt ≤ 39) : Met l yX10_openOn (Cond.code yX10_openOn cX10_openOn 3 (some .int) :: wTab) ({ frames := 1, cells := 0, slots := 0, locals := 40 }) (va_Pc [.ref h0, .int u1] (PreW G (tys6 cI cJ cZ cD cR cT) (va_pl L f0) sz)) (QT (po_X10_openOn kp L f0 h0 u1) G cI cJ cZ cD cR cT (va_A (va_pl L f0) sz) kp L) 0 0 (va_A (va_pl L f0) sz) := by
  refine metT (by decide) (Nat.le_of_ble_eq_true rfl) hTH ?_
  intro p e s m below meth c A ls E hW hl
  obtain ⟨hx, hb, -, hml, hown, hts, -, -, -⟩ := id E
  have hF : FM kp L ms_X10_openOn f0 f0 := FM.rf
  have hl : lv_has ls 3 [(0, .ref h0), (1, .int u1)] := hl
  refine lv_iconst (v := 0) hx hb dX10_openOn_0 (by decide) ?_
  refine lv_istore_n (lv' := [(2, .int 0), (0, .ref h0), (1, .int u1)]) hx hb dX10_openOn_1 rfl hl (by decide) rfl (fun ls hl => ?_)
  have L603 : ∀ (n : Nat), ∀ (y601 : Int32) (b602 : (0 : Int) ≤ y601.toInt ∧ y601.toInt ≤ 60) (hm : (61 : Int) - y601.toInt ≤ n) (H : Heap) (locs : List Loc) (ls : Array Slot), WS G cI cJ cZ cD cR cT A kp L f0 s H locs → FM kp L ms_X10_openOn f0 f0 → lv_has ls 3 [(2, .int y601), (0, .ref h0), (1, .int u1)] → W p l e ({ frames := 1, cells := 0, slots := 0, locals := 40 }) s m ([.ref h0, .int u1] : List Value).toArray below meth c H locs 0 0 (MQ below (QT (po_X10_openOn kp L f0 h0 u1) G cI cJ cZ cD cR cT A kp L) ([.ref h0, .int u1] : List Value).toArray s 0 0 A) (F0 m 2 ls []) := by
    intro n
    induction n with
    | zero =>
      intro y601 b602 hm H locs ls hW hF hl
      have hz := i32_b y601
      exfalso; omega
    | succ n ih =>
      intro y601 b602 hm H locs ls hW hF hl
      have ih2 := ih
      refine lv_iload_n hx hb dX10_openOn_2 rfl (lv_at hl 0 rfl) ?_
      refine lv_aload_n hx hb dX10_openOn_3 rfl (lv_at hl 1 rfl) ?_
      refine fg_RX10_39 E hW rh0 dX10_openOn_4 (fun y604 m605 b606 => ?_)
      refine q_icmp_ge (tgt := 38) hx hb dX10_openOn_7 (by decide) rfl rfl (fun c607 => ?_) (fun c607 => ?_)
      · refine lv_iconst (v := (-1)) hx hb dX10_openOn_38 (by decide) ?_
        exact e_I E hW rfl ⟨⟨_, rfl, (by have hk : ((-1) : Int32).toInt = -1 := rfl; first | decide | omega)⟩, hF⟩ dX10_openOn_39
      · refine lv_aload_n hx hb dX10_openOn_10 rfl (lv_at hl 1 rfl) ?_
        refine fg_RX10_27 E hW rh0 dX10_openOn_11 (fun a608 m609 r610 => ?_)
        refine lv_iload_n hx hb dX10_openOn_14 rfl (lv_at hl 0 rfl) ?_
        refine gl_706 E hW r610 ⟨by omega, by omega⟩ dX10_openOn_15 (fun y611 m612 => ?_)
        refine lv_iconst (v := 1) hx hb dX10_openOn_16 (by decide) ?_
        refine q_icmp_ne (Y := 1) (tgt := 32) hx hb dX10_openOn_17 (by decide) rfl rfl (fun c614 => ?_) (fun c614 => ?_)
        · refine q_iinc hx hb dX10_openOn_32 hl (k := 0) rfl rfl rfl (by omega) (by decide) (fun i615 ls h616 hl => ?_)
          have hl : lv_has ls 3 [(2, .int i615), (0, .ref h0), (1, .int u1)] := hl
          refine lv_goto (tgt := 2) hx hb dX10_openOn_35 (by decide) ?_
          exact ih2 i615 (by omega) (by omega) _ _ _ hW hF (lv_sub hl [0, 1, 2] rfl)
        · refine lv_aload_n hx hb dX10_openOn_20 rfl (lv_at hl 1 rfl) ?_
          refine fg_RX10_9 E hW rh0 dX10_openOn_21 (fun a617 m618 r619 => ?_)
          refine lv_iload_n hx hb dX10_openOn_24 rfl (lv_at hl 0 rfl) ?_
          refine gl_701 E hW r619 ⟨by omega, by omega⟩ dX10_openOn_25 (fun y620 m621 b622 => ?_)
          refine lv_iload_n hx hb dX10_openOn_26 rfl (lv_at hl 2 rfl) ?_
          refine q_icmp_ne (tgt := 32) hx hb dX10_openOn_27 (by decide) rfl rfl (fun c623 => ?_) (fun c623 => ?_)
          · refine q_iinc hx hb dX10_openOn_32 hl (k := 0) rfl rfl rfl (by omega) (by decide) (fun i624 ls h625 hl => ?_)
            have hl : lv_has ls 3 [(2, .int i624), (0, .ref h0), (1, .int u1)] := hl
            refine lv_goto (tgt := 2) hx hb dX10_openOn_35 (by decide) ?_
            exact ih2 i624 (by omega) (by omega) _ _ _ hW hF (lv_sub hl [0, 1, 2] rfl)
          · refine lv_iload_n hx hb dX10_openOn_30 rfl (lv_at hl 0 rfl) ?_
            exact e_I E hW rfl ⟨⟨_, rfl, (by first | omega | trivial)⟩, hF⟩ dX10_openOn_31
  have hk626 : (0 : Int32).toInt = 0 := rfl
  exact L603 61 0 (by decide) (by omega) _ _ _ hW hF (lv_sub hl [0, 1, 2] rfl)
def ms_X10_leftOf : List (Nat × Nat) := []
def po_X10_leftOf (kp : Nat → Nat) (L : List Nat) (f0 : Nat → va_E) (h0 : Nat) (u1 : Int32) : Option Value → (Nat → va_E) → Prop := fun v f => (∃ r : Int32, v = some (.int r) ∧ (True)) ∧ FM kp L ms_X10_leftOf f0 f
set_option maxHeartbeats 4000000 in
set_option maxRecDepth 100000 in
theorem c_X10_leftOf (l : Launch) (G : va_G) (cI cJ cZ cD cR cT : ClassId) (kp : Nat → Nat) (L : List Nat) (f0 : Nat → va_E) (hTH : TH cI cJ cZ cD cR cT kp L f0) (sz : Nat) (h0 : Nat) (u1 : Int32) (rh0 : RK kp L h0 10) (pu1 : (0 : Int) ≤ u1.toInt ∧ u1.toInt ≤ 39) : Met l yX10_leftOf (Cond.code yX10_leftOf cX10_leftOf 3 (some .int) :: wTab) ({ frames := 2, cells := 0, slots := 0, locals := 62 }) (va_Pc [.ref h0, .int u1] (PreW G (tys6 cI cJ cZ cD cR cT) (va_pl L f0) sz)) (QT (po_X10_leftOf kp L f0 h0 u1) G cI cJ cZ cD cR cT (va_A (va_pl L f0) sz) kp L) 0 0 (va_A (va_pl L f0) sz) := by
  refine metT (by decide) (Nat.le_of_ble_eq_true rfl) hTH ?_
  intro p e s m below meth c A ls E hW hl
  obtain ⟨hx, hb, -, hml, hown, hts, -, -, -⟩ := id E
  have hF : FM kp L ms_X10_leftOf f0 f0 := FM.rf
  have hl : lv_has ls 3 [(0, .ref h0), (1, .int u1)] := hl
  refine lv_aload_n hx hb dX10_leftOf_0 rfl (lv_at hl 0 rfl) ?_
  refine lv_iload_n hx hb dX10_leftOf_1 rfl (lv_at hl 1 rfl) ?_
  refine t_callV (As := [.int u1]) (rest := []) E hW (c_X10_openOn l G cI cJ cZ cD cR cT kp L f0 hW.2.2.2 _ h0 u1 rh0 (by omega)) rh0 (by decide) rfl wk_X10_openOn tw_760 rfl ⟨Nat.le_of_ble_eq_true rfl, Nat.le_of_ble_eq_true rfl⟩ ⟨rfl, rfl⟩ hl.1 rfl (Nat.le_of_ble_eq_true rfl) dX10_leftOf_2 ⟨Nat.le_of_ble_eq_true rfl, Nat.le_of_ble_eq_true rfl⟩ (fun v1 f2 H locs q3 hW => ?_)
  obtain ⟨⟨x5, rfl, p6⟩, g4⟩ := q3
  have hF := FM.tr hF g4 rfl
  refine lv_istore_n (lv' := [(2, .int x5), (0, .ref h0), (1, .int u1)]) hx hb dX10_leftOf_5 rfl hl (by decide) rfl (fun ls hl => ?_)
  refine lv_iload_n hx hb dX10_leftOf_6 rfl (lv_at hl 0 rfl) ?_
  refine lv_iconst (v := (-1)) hx hb dX10_leftOf_7 (by decide) ?_
  have J14 : ∀ (y13 : Int32) (H : Heap) (locs : List Loc) (ls : Array Slot), WS G cI cJ cZ cD cR cT A kp L f2 s H locs → FM kp L ms_X10_leftOf f0 f2 → lv_has ls 3 [(2, .int x5), (0, .ref h0), (1, .int u1)] → W p l e ({ frames := 2, cells := 0, slots := 0, locals := 62 }) s m ([.ref h0, .int u1] : List Value).toArray below meth c H locs 0 0 (MQ below (QT (po_X10_leftOf kp L f0 h0 u1) G cI cJ cZ cD cR cT A kp L) ([.ref h0, .int u1] : List Value).toArray s 0 0 A) (F0 m 21 ls [.int y13]) := by
    intro y13 H locs ls hW hF hl
    exact e_I E hW rfl ⟨⟨_, rfl, trivial⟩, hF⟩ dX10_leftOf_21
  refine q_icmp_ne (Y := -1) (tgt := 15) hx hb dX10_leftOf_8 (by decide) rfl rfl (fun c15 => ?_) (fun c15 => ?_)
  · refine lv_aload_n hx hb dX10_leftOf_15 rfl (lv_at hl 1 rfl) ?_
    refine fg_RX10_21 E hW rh0 dX10_leftOf_16 (fun a16 m17 r18 => ?_)
    refine lv_iload_n hx hb dX10_leftOf_19 rfl (lv_at hl 0 rfl) ?_
    refine gl_704 E hW r18 ⟨by omega, by omega⟩ dX10_leftOf_20 (fun y19 m20 => ?_)
    exact J14 y19  _ _ _ hW hF (lv_sub hl [0, 1, 2] rfl)
  · refine lv_iconst (v := (-1)) hx hb dX10_leftOf_11 (by decide) ?_
    refine lv_goto (tgt := 21) hx hb dX10_leftOf_12 (by decide) ?_
    exact J14 (-1)  _ _ _ hW hF (lv_sub hl [0, 1, 2] rfl)
def ms_X10_stepOf : List (Nat × Nat) := []
def po_X10_stepOf (kp : Nat → Nat) (L : List Nat) (f0 : Nat → va_E) (h0 : Nat) (u1 : Int32) : Option Value → (Nat → va_E) → Prop := fun v f => (∃ r : Int32, v = some (.int r) ∧ (True)) ∧ FM kp L ms_X10_stepOf f0 f
set_option maxHeartbeats 4000000 in
set_option maxRecDepth 100000 in
theorem c_X10_stepOf (l : Launch) (G : va_G) (cI cJ cZ cD cR cT : ClassId) (kp : Nat → Nat) (L : List Nat) (f0 : Nat → va_E) (hTH : TH cI cJ cZ cD cR cT kp L f0) (sz : Nat) (h0 : Nat) (u1 : Int32) (rh0 : RK kp L h0 10) (pu1 : (0 : Int) ≤ u1.toInt ∧ u1.toInt ≤ 39) : Met l yX10_stepOf (Cond.code yX10_stepOf cX10_stepOf 3 (some .int) :: wTab) ({ frames := 2, cells := 0, slots := 0, locals := 62 }) (va_Pc [.ref h0, .int u1] (PreW G (tys6 cI cJ cZ cD cR cT) (va_pl L f0) sz)) (QT (po_X10_stepOf kp L f0 h0 u1) G cI cJ cZ cD cR cT (va_A (va_pl L f0) sz) kp L) 0 0 (va_A (va_pl L f0) sz) := by
  refine metT (by decide) (Nat.le_of_ble_eq_true rfl) hTH ?_
  intro p e s m below meth c A ls E hW hl
  obtain ⟨hx, hb, -, hml, hown, hts, -, -, -⟩ := id E
  have hF : FM kp L ms_X10_stepOf f0 f0 := FM.rf
  have hl : lv_has ls 3 [(0, .ref h0), (1, .int u1)] := hl
  refine lv_aload_n hx hb dX10_stepOf_0 rfl (lv_at hl 0 rfl) ?_
  refine lv_iload_n hx hb dX10_stepOf_1 rfl (lv_at hl 1 rfl) ?_
  refine t_callV (As := [.int u1]) (rest := []) E hW (c_X10_openOn l G cI cJ cZ cD cR cT kp L f0 hW.2.2.2 _ h0 u1 rh0 (by omega)) rh0 (by decide) rfl wk_X10_openOn tw_760 rfl ⟨Nat.le_of_ble_eq_true rfl, Nat.le_of_ble_eq_true rfl⟩ ⟨rfl, rfl⟩ hl.1 rfl (Nat.le_of_ble_eq_true rfl) dX10_stepOf_2 ⟨Nat.le_of_ble_eq_true rfl, Nat.le_of_ble_eq_true rfl⟩ (fun v1 f2 H locs q3 hW => ?_)
  obtain ⟨⟨x5, rfl, p6⟩, g4⟩ := q3
  have hF := FM.tr hF g4 rfl
  refine lv_istore_n (lv' := [(2, .int x5), (0, .ref h0), (1, .int u1)]) hx hb dX10_stepOf_5 rfl hl (by decide) rfl (fun ls hl => ?_)
  refine lv_iload_n hx hb dX10_stepOf_6 rfl (lv_at hl 0 rfl) ?_
  refine lv_iconst (v := (-1)) hx hb dX10_stepOf_7 (by decide) ?_
  have J14 : ∀ (y13 : Int32) (H : Heap) (locs : List Loc) (ls : Array Slot), WS G cI cJ cZ cD cR cT A kp L f2 s H locs → FM kp L ms_X10_stepOf f0 f2 → lv_has ls 3 [(2, .int x5), (0, .ref h0), (1, .int u1)] → W p l e ({ frames := 2, cells := 0, slots := 0, locals := 62 }) s m ([.ref h0, .int u1] : List Value).toArray below meth c H locs 0 0 (MQ below (QT (po_X10_stepOf kp L f0 h0 u1) G cI cJ cZ cD cR cT A kp L) ([.ref h0, .int u1] : List Value).toArray s 0 0 A) (F0 m 21 ls [.int y13]) := by
    intro y13 H locs ls hW hF hl
    exact e_I E hW rfl ⟨⟨_, rfl, trivial⟩, hF⟩ dX10_stepOf_21
  refine q_icmp_ne (Y := -1) (tgt := 15) hx hb dX10_stepOf_8 (by decide) rfl rfl (fun c15 => ?_) (fun c15 => ?_)
  · refine lv_aload_n hx hb dX10_stepOf_15 rfl (lv_at hl 1 rfl) ?_
    refine fg_RX10_18 E hW rh0 dX10_stepOf_16 (fun a16 m17 r18 => ?_)
    refine lv_iload_n hx hb dX10_stepOf_19 rfl (lv_at hl 0 rfl) ?_
    refine gl_703 E hW r18 ⟨by omega, by omega⟩ dX10_stepOf_20 (fun y19 m20 => ?_)
    exact J14 y19  _ _ _ hW hF (lv_sub hl [0, 1, 2] rfl)
  · refine lv_iconst (v := (-1)) hx hb dX10_stepOf_11 (by decide) ?_
    refine lv_goto (tgt := 21) hx hb dX10_stepOf_12 (by decide) ?_
    exact J14 (-1)  _ _ _ hW hF (lv_sub hl [0, 1, 2] rfl)
def ms_X7_copyFrom : List (Nat × Nat) := [(520, 0), (521, 0)]
def po_X7_copyFrom (kp : Nat → Nat) (L : List Nat) (f0 : Nat → va_E) (h0 : Nat) (u1 : Nat) : Option Value → (Nat → va_E) → Prop := fun v f => v = none ∧ FM kp L ms_X7_copyFrom f0 f
set_option maxHeartbeats 4000000 in
set_option maxRecDepth 100000 in
theorem c_X7_copyFrom (l : Launch) (G : va_G) (cI cJ cZ cD cR cT : ClassId) (kp : Nat → Nat) (L : List Nat) (f0 : Nat → va_E) (hTH : TH cI cJ cZ cD cR cT kp L f0) (sz : Nat) (h0 : Nat) (u1 : Nat) (rh0 : RK kp L h0 7) (ru1 : RK kp L u1 7) : Met l yX7_copyFrom (Cond.code yX7_copyFrom cX7_copyFrom 3 none :: wTab) ({ frames := 1, cells := 0, slots := 0, locals := 60 }) (va_Pc [.ref h0, .ref u1] (PreW G (tys6 cI cJ cZ cD cR cT) (va_pl L f0) sz)) (QT (po_X7_copyFrom kp L f0 h0 u1) G cI cJ cZ cD cR cT (va_A (va_pl L f0) sz) kp L) 0 0 (va_A (va_pl L f0) sz) := by
  refine metT (by decide) (Nat.le_of_ble_eq_true rfl) hTH ?_
  intro p e s m below meth c A ls E hW hl
  obtain ⟨hx, hb, -, hml, hown, hts, -, -, -⟩ := id E
  have hF : FM kp L ms_X7_copyFrom f0 f0 := FM.rf
  have hl : lv_has ls 3 [(0, .ref h0), (1, .ref u1)] := hl
  refine lv_aload_n hx hb dX7_copyFrom_0 rfl (lv_at hl 1 rfl) ?_
  refine fg_RX7_9 E hW ru1 dX7_copyFrom_1 (fun a1 m2 r3 => ?_)
  refine lv_iconst (v := 0) hx hb dX7_copyFrom_4 (by decide) ?_
  refine lv_aload_n hx hb dX7_copyFrom_5 rfl (lv_at hl 0 rfl) ?_
  refine fg_RX7_9 E hW rh0 dX7_copyFrom_6 (fun a4 m5 r6 => ?_)
  refine lv_iconst (v := 0) hx hb dX7_copyFrom_9 (by decide) ?_
  refine lv_sipush (v := 400) hx hb dX7_copyFrom_10 (by decide) ?_
  refine t_copy (N := 400) (n0 := 400) (n1 := 400) E hW tw_1308 ⟨tw_1004, tw_1003, tw_122⟩ hl.1 rfl r3 (by decide) rfl r6 (by decide) rfl rfl (by decide) rfl (by decide) (by decide) (by decide) (fun _ _ => trivial) ⟨Nat.le_of_ble_eq_true rfl, Nat.le_of_ble_eq_true rfl⟩ dX7_copyFrom_13 (fun f7 H locs n9 g10 hW => ?_)
  have hF := FM.tr hF g10 rfl
  refine lv_iconst (v := 0) hx hb dX7_copyFrom_16 (by decide) ?_
  refine lv_istore_n (lv' := [(2, .int 0), (0, .ref h0), (1, .ref u1)]) hx hb dX7_copyFrom_17 rfl hl (by decide) rfl (fun ls hl => ?_)
  have L1312 : ∀ (n : Nat), ∀ (f1307 : Nat → va_E) (y1310 : Int32) (m1308 : oR (f1307 h0) 0 = a4) (m1309 : oR (f1307 u1) 0 = a1) (b1311 : (0 : Int) ≤ y1310.toInt ∧ y1310.toInt ≤ 400) (hm : (401 : Int) - y1310.toInt ≤ n) (H : Heap) (locs : List Loc) (ls : Array Slot), WS G cI cJ cZ cD cR cT A kp L f1307 s H locs → FM kp L ms_X7_copyFrom f0 f1307 → lv_has ls 3 [(2, .int y1310), (0, .ref h0), (1, .ref u1)] → W p l e ({ frames := 1, cells := 0, slots := 0, locals := 60 }) s m ([.ref h0, .ref u1] : List Value).toArray below meth c H locs 0 0 (MQ below (QT (po_X7_copyFrom kp L f0 h0 u1) G cI cJ cZ cD cR cT A kp L) ([.ref h0, .ref u1] : List Value).toArray s 0 0 A) (F0 m 18 ls []) := by
    intro n
    induction n with
    | zero =>
      intro f1307 y1310 m1308 m1309 b1311 hm H locs ls hW hF hl
      have hz := i32_b y1310
      exfalso; omega
    | succ n ih =>
      intro f1307 y1310 m1308 m1309 b1311 hm H locs ls hW hF hl
      have ih18 := ih
      refine lv_iload_n hx hb dX7_copyFrom_18 rfl (lv_at hl 0 rfl) ?_
      refine lv_sipush (v := 400) hx hb dX7_copyFrom_19 (by decide) ?_
      refine q_icmp_ge (Y := 400) (tgt := 43) hx hb dX7_copyFrom_22 (by decide) rfl rfl (fun c1334 => ?_) (fun c1334 => ?_)
      · exact e_V E hW rfl ⟨rfl, hF⟩ dX7_copyFrom_43
      · refine lv_aload_n hx hb dX7_copyFrom_25 rfl (lv_at hl 1 rfl) ?_
        refine fg_RX7_17 E hW rh0 dX7_copyFrom_26 (fun a1335 m1336 r1337 => ?_)
        refine lv_iload_n hx hb dX7_copyFrom_29 rfl (lv_at hl 0 rfl) ?_
        refine lv_aload_n hx hb dX7_copyFrom_30 rfl (lv_at hl 2 rfl) ?_
        refine fg_RX7_17 E hW ru1 dX7_copyFrom_31 (fun a1338 m1339 r1340 => ?_)
        refine lv_iload_n hx hb dX7_copyFrom_34 rfl (lv_at hl 0 rfl) ?_
        refine gl_521 E hW r1340 ⟨by omega, by omega⟩ dX7_copyFrom_35 (fun o1341 m1343 k1342 => ?_)
        rcases o1341 with _ | a1344
        · have hl : lv_has ls 3 [(2, .int y1310), (0, .ref h0), (1, .ref u1)] := hl
          show W p l e ({ frames := 1, cells := 0, slots := 0, locals := 60 }) s m ([.ref h0, .ref u1] : List Value).toArray below meth c _ _ 0 0 (MQ below (QT (po_X7_copyFrom kp L f0 h0 u1) G cI cJ cZ cD cR cT A kp L) ([.ref h0, .ref u1] : List Value).toArray s 0 0 A) (F0 m 36 ls [.null, .int y1310, .ref a1335])
          refine r_astRN E hW r1337 (by decide) rfl (by decide) (ixN (N := 400) hW r1337 (by decide) rfl (by decide) ⟨by omega, by omega⟩) dX7_copyFrom_36 (fun f1346 H locs n1347 g1348 hW => ?_)
          have hF := FM.tr hF g1348 rfl
          refine q_iinc hx hb dX7_copyFrom_37 hl (k := 0) rfl rfl rfl (by omega) (by decide) (fun i1349 ls h1350 hl => ?_)
          have hl : lv_has ls 3 [(2, .int i1349), (0, .ref h0), (1, .ref u1)] := hl
          refine lv_goto (tgt := 18) hx hb dX7_copyFrom_40 (by decide) ?_
          exact ih18 f1346 i1349 ((fm_R g1348 rh0 rfl).trans m1308) ((fm_R g1348 ru1 rfl).trans m1309) (by omega) (by omega) _ _ _ hW hF (lv_sub hl [0, 1, 2] rfl)
        · have r1345 : RK kp L a1344 6 := k1342 _ rfl
          have hl : lv_has ls 3 [(2, .int y1310), (0, .ref h0), (1, .ref u1)] := hl
          show W p l e ({ frames := 1, cells := 0, slots := 0, locals := 60 }) s m ([.ref h0, .ref u1] : List Value).toArray below meth c _ _ 0 0 (MQ below (QT (po_X7_copyFrom kp L f0 h0 u1) G cI cJ cZ cD cR cT A kp L) ([.ref h0, .ref u1] : List Value).toArray s 0 0 A) (F0 m 36 ls [.ref a1344, .int y1310, .ref a1335])
          refine r_astR E hW r1337 (by decide) rfl (by decide) r1345 (ixN (N := 400) hW r1337 (by decide) rfl (by decide) ⟨by omega, by omega⟩) dX7_copyFrom_36 (fun f1351 H locs n1352 g1353 hW => ?_)
          have hF := FM.tr hF g1353 rfl
          refine q_iinc hx hb dX7_copyFrom_37 hl (k := 0) rfl rfl rfl (by omega) (by decide) (fun i1354 ls h1355 hl => ?_)
          have hl : lv_has ls 3 [(2, .int i1354), (0, .ref h0), (1, .ref u1)] := hl
          refine lv_goto (tgt := 18) hx hb dX7_copyFrom_40 (by decide) ?_
          exact ih18 f1351 i1354 ((fm_R g1353 rh0 rfl).trans m1308) ((fm_R g1353 ru1 rfl).trans m1309) (by omega) (by omega) _ _ _ hW hF (lv_sub hl [0, 1, 2] rfl)
  have hk1356 : (0 : Int32).toInt = 0 := rfl
  exact L1312 401 f7 0 ((fm_R g10 rh0 rfl).trans m5) ((fm_R g10 ru1 rfl).trans m2) (by decide) (by omega) _ _ _ hW hF (lv_sub hl [0, 1, 2] rfl)
def ms_X7_priceIn : List (Nat × Nat) := []
def po_X7_priceIn (kp : Nat → Nat) (L : List Nat) (f0 : Nat → va_E) (h0 : Nat) (u1 : Int32) : Option Value → (Nat → va_E) → Prop := fun v f => (∃ r : Int32, v = some (.int r) ∧ (True)) ∧ FM kp L ms_X7_priceIn f0 f
set_option maxHeartbeats 4000000 in
set_option maxRecDepth 100000 in
theorem c_X7_priceIn (l : Launch) (G : va_G) (cI cJ cZ cD cR cT : ClassId) (kp : Nat → Nat) (L : List Nat) (f0 : Nat → va_E) (hTH : TH cI cJ cZ cD cR cT kp L f0) (sz : Nat) (h0 : Nat) (u1 : Int32) (rh0 : RK kp L h0 7) (pu1 : (0 : Int) ≤ u1.toInt ∧ u1.toInt ≤ 399) : Met l yX7_priceIn (Cond.code yX7_priceIn cX7_priceIn 3 (some .int) :: wTab) ({ frames := 1, cells := 0, slots := 0, locals := 60 }) (va_Pc [.ref h0, .int u1] (PreW G (tys6 cI cJ cZ cD cR cT) (va_pl L f0) sz)) (QT (po_X7_priceIn kp L f0 h0 u1) G cI cJ cZ cD cR cT (va_A (va_pl L f0) sz) kp L) 0 0 (va_A (va_pl L f0) sz) := by
  refine metT (by decide) (Nat.le_of_ble_eq_true rfl) hTH ?_
  intro p e s m below meth c A ls E hW hl
  obtain ⟨hx, hb, -, hml, hown, hts, -, -, -⟩ := id E
  have hF : FM kp L ms_X7_priceIn f0 f0 := FM.rf
  have hl : lv_has ls 3 [(0, .ref h0), (1, .int u1)] := hl
  refine lv_iload_n hx hb dX7_priceIn_0 rfl (lv_at hl 1 rfl) ?_
  refine lv_sipush (v := 399) hx hb dX7_priceIn_1 (by decide) ?_
  refine t_min (Y := 399) (own := RX7) E tw_704 ⟨tw_637, tw_115, tw_638⟩ hl.1 ⟨Nat.le_of_ble_eq_true rfl, Nat.le_of_ble_eq_true rfl⟩ ⟨Nat.le_of_ble_eq_true rfl, Nat.le_of_ble_eq_true rfl⟩ rfl rfl dX7_priceIn_4 (fun x1 h2 => ?_)
  refine lv_istore_n (lv' := [(2, .int x1), (0, .ref h0), (1, .int u1)]) hx hb dX7_priceIn_7 rfl hl (by decide) rfl (fun ls hl => ?_)
  have L41 : ∀ (n : Nat), ∀ (y39 : Int32) (b40 : (-1 : Int) ≤ y39.toInt ∧ y39.toInt ≤ 399) (hm : y39.toInt - (-2 : Int) ≤ n) (H : Heap) (locs : List Loc) (ls : Array Slot), WS G cI cJ cZ cD cR cT A kp L f0 s H locs → FM kp L ms_X7_priceIn f0 f0 → lv_has ls 3 [(2, .int y39), (0, .ref h0), (1, .int u1)] → W p l e ({ frames := 1, cells := 0, slots := 0, locals := 60 }) s m ([.ref h0, .int u1] : List Value).toArray below meth c H locs 0 0 (MQ below (QT (po_X7_priceIn kp L f0 h0 u1) G cI cJ cZ cD cR cT A kp L) ([.ref h0, .int u1] : List Value).toArray s 0 0 A) (F0 m 8 ls []) := by
    intro n
    induction n with
    | zero =>
      intro y39 b40 hm H locs ls hW hF hl
      have hz := i32_b y39
      exfalso; omega
    | succ n ih =>
      intro y39 b40 hm H locs ls hW hF hl
      have ih8 := ih
      refine lv_iload_n hx hb dX7_priceIn_8 rfl (lv_at hl 0 rfl) ?_
      refine q_if_lt (tgt := 35) hx hb dX7_priceIn_9 (by decide) rfl (fun c42 => ?_) (fun c42 => ?_)
      · refine lv_bipush (v := 100) hx hb dX7_priceIn_35 (by decide) ?_
        exact e_I E hW rfl ⟨⟨_, rfl, trivial⟩, hF⟩ dX7_priceIn_37
      · refine lv_aload_n hx hb dX7_priceIn_12 rfl (lv_at hl 1 rfl) ?_
        refine fg_RX7_9 E hW rh0 dX7_priceIn_13 (fun a43 m44 r45 => ?_)
        refine lv_iload_n hx hb dX7_priceIn_16 rfl (lv_at hl 0 rfl) ?_
        refine gl_520 E hW r45 ⟨by omega, by omega⟩ dX7_priceIn_17 (fun y46 m47 => ?_)
        refine lv_iconst (v := (-1)) hx hb dX7_priceIn_18 (by decide) ?_
        refine q_icmp_eq (Y := -1) (tgt := 29) hx hb dX7_priceIn_19 (by decide) rfl rfl (fun c49 => ?_) (fun c49 => ?_)
        · refine q_iinc hx hb dX7_priceIn_29 hl (k := 0) rfl rfl rfl (by omega) (by decide) (fun i50 ls h51 hl => ?_)
          have hl : lv_has ls 3 [(2, .int i50), (0, .ref h0), (1, .int u1)] := hl
          refine lv_goto (tgt := 8) hx hb dX7_priceIn_32 (by decide) ?_
          exact ih8 i50 (by omega) (by omega) _ _ _ hW hF (lv_sub hl [0, 1, 2] rfl)
        · refine lv_aload_n hx hb dX7_priceIn_22 rfl (lv_at hl 1 rfl) ?_
          refine fg_RX7_9 E hW rh0 dX7_priceIn_23 (fun a52 m53 r54 => ?_)
          obtain rfl : a43 = a52 := (m44).symm.trans m53
          refine lv_iload_n hx hb dX7_priceIn_26 rfl (lv_at hl 0 rfl) ?_
          refine gl_520 E hW r45 ⟨by omega, by omega⟩ dX7_priceIn_27 (fun y55 m56 => ?_)
          obtain rfl : y46 = y55 := (m47).symm.trans m56
          exact e_I E hW rfl ⟨⟨_, rfl, trivial⟩, hF⟩ dX7_priceIn_28
  exact L41 401 x1 (by omega) (by omega) _ _ _ hW hF (lv_sub hl [0, 1, 2] rfl)
def ms_X7_sacksOf : List (Nat × Nat) := []
def po_X7_sacksOf (kp : Nat → Nat) (L : List Nat) (f0 : Nat → va_E) (h0 : Nat) (u1 : Int32) (u2 : Int32) : Option Value → (Nat → va_E) → Prop := fun v f => (∃ r : Int32, v = some (.int r) ∧ (True)) ∧ FM kp L ms_X7_sacksOf f0 f
set_option maxHeartbeats 4000000 in
set_option maxRecDepth 100000 in
theorem c_X7_sacksOf (l : Launch) (G : va_G) (cI cJ cZ cD cR cT : ClassId) (kp : Nat → Nat) (L : List Nat) (f0 : Nat → va_E) (hTH : TH cI cJ cZ cD cR cT kp L f0) (sz : Nat) (h0 : Nat) (u1 : Int32) (u2 : Int32) (rh0 : RK kp L h0 7) (pu1 : (0 : Int) ≤ u1.toInt ∧ u1.toInt ≤ 39) (pu2 : (0 : Int) ≤ u2.toInt ∧ u2.toInt ≤ 399) : Met l yX7_sacksOf (Cond.code yX7_sacksOf cX7_sacksOf 4 (some .int) :: wTab) ({ frames := 1, cells := 0, slots := 0, locals := 40 }) (va_Pc [.ref h0, .int u1, .int u2] (PreW G (tys6 cI cJ cZ cD cR cT) (va_pl L f0) sz)) (QT (po_X7_sacksOf kp L f0 h0 u1 u2) G cI cJ cZ cD cR cT (va_A (va_pl L f0) sz) kp L) 0 0 (va_A (va_pl L f0) sz) := by
  refine metT (by decide) (Nat.le_of_ble_eq_true rfl) hTH ?_
  intro p e s m below meth c A ls E hW hl
  obtain ⟨hx, hb, -, hml, hown, hts, -, -, -⟩ := id E
  have hF : FM kp L ms_X7_sacksOf f0 f0 := FM.rf
  have hl : lv_has ls 4 [(0, .ref h0), (1, .int u1), (2, .int u2)] := hl
  refine lv_aload_n hx hb dX7_sacksOf_0 rfl (lv_at hl 0 rfl) ?_
  refine fg_RX7_17 E hW rh0 dX7_sacksOf_1 (fun a1 m2 r3 => ?_)
  refine lv_iload_n hx hb dX7_sacksOf_4 rfl (lv_at hl 2 rfl) ?_
  refine gl_521 E hW r3 ⟨by omega, by omega⟩ dX7_sacksOf_5 (fun o4 m6 k5 => ?_)
  rcases o4 with _ | a7
  · have hl : lv_has ls 4 [(0, .ref h0), (1, .int u1), (2, .int u2)] := hl
    show W p l e ({ frames := 1, cells := 0, slots := 0, locals := 40 }) s m ([.ref h0, .int u1, .int u2] : List Value).toArray below meth c _ _ 0 0 (MQ below (QT (po_X7_sacksOf kp L f0 h0 u1 u2) G cI cJ cZ cD cR cT A kp L) ([.ref h0, .int u1, .int u2] : List Value).toArray s 0 0 A) (F0 m 6 ls [.null])
    refine lv_astore_nN (lv' := [(3, .null), (0, .ref h0), (1, .int u1), (2, .int u2)]) hx hb dX7_sacksOf_6 rfl hl (by decide) rfl (fun ls hl => ?_)
    refine lv_aload_nN hx hb dX7_sacksOf_7 rfl (lv_at hl 0 rfl) ?_
    refine lv_ifnullN (tgt := 33) hx hb dX7_sacksOf_8 (by decide) ?_
    refine lv_iconst (v := (-1)) hx hb dX7_sacksOf_33 (by decide) ?_
    exact e_I E hW rfl ⟨⟨_, rfl, trivial⟩, hF⟩ dX7_sacksOf_34
  · have r8 : RK kp L a7 6 := k5 _ rfl
    have hl : lv_has ls 4 [(0, .ref h0), (1, .int u1), (2, .int u2)] := hl
    show W p l e ({ frames := 1, cells := 0, slots := 0, locals := 40 }) s m ([.ref h0, .int u1, .int u2] : List Value).toArray below meth c _ _ 0 0 (MQ below (QT (po_X7_sacksOf kp L f0 h0 u1 u2) G cI cJ cZ cD cR cT A kp L) ([.ref h0, .int u1, .int u2] : List Value).toArray s 0 0 A) (F0 m 6 ls [.ref a7])
    refine lv_astore_n (lv' := [(3, .ref a7), (0, .ref h0), (1, .int u1), (2, .int u2)]) hx hb dX7_sacksOf_6 rfl hl (by decide) rfl (fun ls hl => ?_)
    refine lv_aload_n hx hb dX7_sacksOf_7 rfl (lv_at hl 0 rfl) ?_
    refine lv_ifnull hx hb dX7_sacksOf_8 ?_
    refine lv_iload_n hx hb dX7_sacksOf_11 rfl (lv_at hl 2 rfl) ?_
    refine lv_aload_n hx hb dX7_sacksOf_12 rfl (lv_at hl 0 rfl) ?_
    refine fg_RX7_33 E hW r8 dX7_sacksOf_13 (fun y9 m10 b11 => ?_)
    refine q_icmp_lt (tgt := 33) hx hb dX7_sacksOf_16 (by decide) rfl rfl (fun c12 => ?_) (fun c12 => ?_)
    · refine lv_iconst (v := (-1)) hx hb dX7_sacksOf_33 (by decide) ?_
      exact e_I E hW rfl ⟨⟨_, rfl, trivial⟩, hF⟩ dX7_sacksOf_34
    · refine lv_iload_n hx hb dX7_sacksOf_19 rfl (lv_at hl 2 rfl) ?_
      refine lv_aload_n hx hb dX7_sacksOf_20 rfl (lv_at hl 0 rfl) ?_
      refine fg_RX7_33 E hW r8 dX7_sacksOf_21 (fun y13 m14 b15 => ?_)
      obtain rfl : y9 = y13 := (m10).symm.trans m14
      refine q_isub hx hb dX7_sacksOf_24 rfl rfl (by omega) (fun x16 h17 => ?_)
      refine lv_aload_n hx hb dX7_sacksOf_25 rfl (lv_at hl 0 rfl) ?_
      refine fg_RX7_37 E hW r8 dX7_sacksOf_26 (fun a18 m19 r20 => ?_)
      have h23 : aN (f0 a18) ≤ 400 := (th_len hW r20 (by decide)).1 rfl
      refine r_alen E hW r20 (by decide) dX7_sacksOf_29 (fun n21 h22 => ?_) (by omega)
      refine q_icmp_lt (tgt := 35) hx hb dX7_sacksOf_30 (by decide) rfl rfl (fun c24 => ?_) (fun c24 => ?_)
      · refine lv_aload_n hx hb dX7_sacksOf_35 rfl (lv_at hl 0 rfl) ?_
        refine fg_RX7_37 E hW r8 dX7_sacksOf_36 (fun a25 m26 r27 => ?_)
        obtain rfl : a18 = a25 := (m19).symm.trans m26
        refine lv_iload_n hx hb dX7_sacksOf_39 rfl (lv_at hl 2 rfl) ?_
        refine lv_aload_n hx hb dX7_sacksOf_40 rfl (lv_at hl 0 rfl) ?_
        refine fg_RX7_33 E hW r8 dX7_sacksOf_41 (fun y28 m29 b30 => ?_)
        obtain rfl : y9 = y28 := (m14).symm.trans m29
        refine q_isub hx hb dX7_sacksOf_44 rfl rfl (by omega) (fun x31 h32 => ?_)
        refine gl_461 E hW r20 (by rw [(show aN (f0 a18) = n21.toInt.toNat by omega)]; omega) dX7_sacksOf_45 (fun y33 m34 => ?_)
        exact e_I E hW rfl ⟨⟨_, rfl, trivial⟩, hF⟩ dX7_sacksOf_46
      · refine lv_iconst (v := (-1)) hx hb dX7_sacksOf_33 (by decide) ?_
        exact e_I E hW rfl ⟨⟨_, rfl, trivial⟩, hF⟩ dX7_sacksOf_34
def ms_X3_addOffer : List (Nat × Nat) := [(3, 3), (284, 0), (285, 0)]
def po_X3_addOffer (kp : Nat → Nat) (L : List Nat) (f0 : Nat → va_E) (h0 : Nat) (u1 : Int32) (u2 : Int32) : Option Value → (Nat → va_E) → Prop := fun v f => (∃ r : Int32, v = some (.int r) ∧ ((-1 : Int) ≤ r.toInt ∧ r.toInt ≤ 9)) ∧ FM kp L ms_X3_addOffer f0 f
set_option maxHeartbeats 4000000 in
set_option maxRecDepth 100000 in
theorem c_X3_addOffer (l : Launch) (G : va_G) (cI cJ cZ cD cR cT : ClassId) (kp : Nat → Nat) (L : List Nat) (f0 : Nat → va_E) (hTH : TH cI cJ cZ cD cR cT kp L f0) (sz : Nat) (h0 : Nat) (u1 : Int32) (u2 : Int32) (rh0 : RK kp L h0 3) (pu1 : (-1000 : Int) ≤ u1.toInt ∧ u1.toInt ≤ 1000) (pu2 : (-1000 : Int) ≤ u2.toInt ∧ u2.toInt ≤ 1000) : Met l yX3_addOffer (Cond.code yX3_addOffer cX3_addOffer 3 (some .int) :: wTab) ({ frames := 1, cells := 0, slots := 0, locals := 40 }) (va_Pc [.ref h0, .int u1, .int u2] (PreW G (tys6 cI cJ cZ cD cR cT) (va_pl L f0) sz)) (QT (po_X3_addOffer kp L f0 h0 u1 u2) G cI cJ cZ cD cR cT (va_A (va_pl L f0) sz) kp L) 0 0 (va_A (va_pl L f0) sz) := by
  refine metT (by decide) (Nat.le_of_ble_eq_true rfl) hTH ?_
  intro p e s m below meth c A ls E hW hl
  obtain ⟨hx, hb, -, hml, hown, hts, -, -, -⟩ := id E
  have hF : FM kp L ms_X3_addOffer f0 f0 := FM.rf
  have hl : lv_has ls 3 [(0, .ref h0), (1, .int u1), (2, .int u2)] := hl
  refine lv_aload_n hx hb dX3_addOffer_0 rfl (lv_at hl 0 rfl) ?_
  refine fg_RX3_22 E hW rh0 dX3_addOffer_1 (fun y1 m2 b3 => ?_)
  refine lv_bipush (v := 9) hx hb dX3_addOffer_4 (by decide) ?_
  refine q_icmp_lt (Y := 9) (tgt := 11) hx hb dX3_addOffer_6 (by decide) rfl rfl (fun c4 => ?_) (fun c4 => ?_)
  · refine lv_aload_n hx hb dX3_addOffer_11 rfl (lv_at hl 0 rfl) ?_
    refine fg_RX3_15 E hW rh0 dX3_addOffer_12 (fun a5 m6 r7 => ?_)
    refine lv_aload_n hx hb dX3_addOffer_15 rfl (lv_at hl 0 rfl) ?_
    refine fg_RX3_22 E hW rh0 dX3_addOffer_16 (fun y8 m9 b10 => ?_)
    obtain rfl : y1 = y8 := (m2).symm.trans m9
    refine lv_iload_n hx hb dX3_addOffer_19 rfl (lv_at hl 1 rfl) ?_
    refine gs_284 E hW r7 ⟨by omega, by omega⟩ dX3_addOffer_20 (fun f11 H locs e12 n13 g14 hW => ?_)
    have hF := FM.tr hF g14 rfl
    refine lv_aload_n hx hb dX3_addOffer_21 rfl (lv_at hl 0 rfl) ?_
    refine fg_RX3_19 E hW rh0 dX3_addOffer_22 (fun a15 m16 r17 => ?_)
    refine lv_aload_n hx hb dX3_addOffer_25 rfl (lv_at hl 0 rfl) ?_
    refine fg_RX3_22 E hW rh0 dX3_addOffer_26 (fun y18 m19 b20 => ?_)
    obtain rfl : y1 = y18 := (((fm_I g14 rh0 rfl).trans m9)).symm.trans m19
    refine lv_iload_n hx hb dX3_addOffer_29 rfl (lv_at hl 2 rfl) ?_
    refine gs_285 E hW r17 ⟨by omega, by omega⟩ dX3_addOffer_30 (fun f21 H locs e22 n23 g24 hW => ?_)
    have hF := FM.tr hF g24 rfl
    refine lv_aload_n hx hb dX3_addOffer_31 rfl (lv_at hl 0 rfl) ?_
    refine lv_dup hx hb dX3_addOffer_32 rfl ?_
    refine fg_RX3_22 E hW rh0 dX3_addOffer_33 (fun y25 m26 b27 => ?_)
    obtain rfl : y1 = y25 := (((fm_I g24 rh0 rfl).trans m19)).symm.trans m26
    refine lv_iconst (v := 1) hx hb dX3_addOffer_36 (by decide) ?_
    refine q_iadd (Y := 1) hx hb dX3_addOffer_37 rfl rfl (by omega) (fun x28 h29 => ?_)
    refine fp_RX3_22 E hW rh0 (by omega) dX3_addOffer_38 (fun f30 H locs e31 n32 g33 hW => ?_)
    have hF := FM.tr hF g33 rfl
    refine lv_aload_n hx hb dX3_addOffer_41 rfl (lv_at hl 0 rfl) ?_
    refine fg_RX3_22 E hW rh0 dX3_addOffer_42 (fun y34 m35 b36 => ?_)
    obtain rfl : x28 = y34 := (e31).symm.trans m35
    exact e_I E hW rfl ⟨⟨_, rfl, (by first | omega | trivial)⟩, hF⟩ dX3_addOffer_45
  · refine lv_iconst (v := (-1)) hx hb dX3_addOffer_9 (by decide) ?_
    exact e_I E hW rfl ⟨⟨_, rfl, (by have hk : ((-1) : Int32).toInt = -1 := rfl; first | decide | omega)⟩, hF⟩ dX3_addOffer_10
def ms_X3_sumOf_l : List (Nat × Nat) := []
def po_X3_sumOf_l (kp : Nat → Nat) (L : List Nat) (f0 : Nat → va_E) (h0 : Nat) (u1 : Int32) (u2 : Nat) : Option Value → (Nat → va_E) → Prop := fun v f => (∃ r : Int32, v = some (.int r) ∧ (True)) ∧ FM kp L ms_X3_sumOf_l f0 f
set_option maxHeartbeats 4000000 in
set_option maxRecDepth 100000 in
theorem c_X3_sumOf_l (l : Launch) (G : va_G) (cI cJ cZ cD cR cT : ClassId) (kp : Nat → Nat) (L : List Nat) (f0 : Nat → va_E) (hTH : TH cI cJ cZ cD cR cT kp L f0) (sz : Nat) (h0 : Nat) (u1 : Int32) (u2 : Nat) (rh0 : RK kp L h0 3) (ru2 : RK kp L u2 284) (pu1 : (0 : Int) ≤ u1.toInt) : Met l yX3_sumOf (Cond.code yX3_sumOf cX3_sumOf 5 (some .int) :: wTab) ({ frames := 1, cells := 0, slots := 0, locals := 40 }) (va_Pc [.ref h0, .int u1, .ref u2] (PreW G (tys6 cI cJ cZ cD cR cT) (va_pl L f0) sz)) (QT (po_X3_sumOf_l kp L f0 h0 u1 u2) G cI cJ cZ cD cR cT (va_A (va_pl L f0) sz) kp L) 0 0 (va_A (va_pl L f0) sz) := by
  refine metT (by decide) (Nat.le_of_ble_eq_true rfl) hTH ?_
  intro p e s m below meth c A ls E hW hl
  obtain ⟨hx, hb, -, hml, hown, hts, -, -, -⟩ := id E
  have hF : FM kp L ms_X3_sumOf_l f0 f0 := FM.rf
  have hl : lv_has ls 5 [(0, .ref h0), (1, .int u1), (2, .ref u2)] := hl
  refine lv_iconst (v := 0) hx hb dX3_sumOf_0 (by decide) ?_
  refine lv_istore_n (lv' := [(3, .int 0), (0, .ref h0), (1, .int u1), (2, .ref u2)]) hx hb dX3_sumOf_1 rfl hl (by decide) rfl (fun ls hl => ?_)
  refine lv_iconst (v := 0) hx hb dX3_sumOf_2 (by decide) ?_
  refine lv_istore (lv' := [(4, .int 0), (3, .int 0), (0, .ref h0), (1, .int u1), (2, .ref u2)]) hx hb dX3_sumOf_3 hl (by decide) rfl (fun ls hl => ?_)
  have L257 : ∀ (n : Nat), ∀ (y254 : Int32) (y256 : Int32) (b255 : (0 : Int) ≤ y254.toInt ∧ y254.toInt ≤ 9) (hm : (10 : Int) - y254.toInt ≤ n) (H : Heap) (locs : List Loc) (ls : Array Slot), WS G cI cJ cZ cD cR cT A kp L f0 s H locs → FM kp L ms_X3_sumOf_l f0 f0 → lv_has ls 5 [(4, .int y254), (3, .int y256), (0, .ref h0), (1, .int u1), (2, .ref u2)] → W p l e ({ frames := 1, cells := 0, slots := 0, locals := 40 }) s m ([.ref h0, .int u1, .ref u2] : List Value).toArray below meth c H locs 0 0 (MQ below (QT (po_X3_sumOf_l kp L f0 h0 u1 u2) G cI cJ cZ cD cR cT A kp L) ([.ref h0, .int u1, .ref u2] : List Value).toArray s 0 0 A) (F0 m 5 ls []) := by
    intro n
    induction n with
    | zero =>
      intro y254 y256 b255 hm H locs ls hW hF hl
      have hz := i32_b y254
      exfalso; omega
    | succ n ih =>
      intro y254 y256 b255 hm H locs ls hW hF hl
      have ih5 := ih
      refine lv_iload hx hb dX3_sumOf_5 (lv_at hl 0 rfl) ?_
      refine lv_aload_n hx hb dX3_sumOf_7 rfl (lv_at hl 2 rfl) ?_
      refine fg_RX3_22 E hW rh0 dX3_sumOf_8 (fun y258 m259 b260 => ?_)
      refine q_icmp_ge (tgt := 48) hx hb dX3_sumOf_11 (by decide) rfl rfl (fun c279 => ?_) (fun c279 => ?_)
      · refine lv_iload_n hx hb dX3_sumOf_48 rfl (lv_at hl 1 rfl) ?_
        exact e_I E hW rfl ⟨⟨_, rfl, trivial⟩, hF⟩ dX3_sumOf_49
      · refine lv_iload hx hb dX3_sumOf_14 (lv_at hl 0 rfl) ?_
        refine lv_aload_n hx hb dX3_sumOf_16 rfl (lv_at hl 4 rfl) ?_
        refine r_alen E hW ru2 (by decide) dX3_sumOf_17 (fun n280 h281 => ?_) (by rw [lenOk_n (th_len hW ru2 (by decide)) rfl (by decide)]; decide)
        rw [lenOk_n (th_len hW ru2 (by decide)) rfl (by decide)] at h281
        obtain rfl : (9 : Int32) = n280 := Int32.toInt_inj.mp (Eq.trans (by decide) h281.symm)
        refine q_icmp_ge (Y := 9) (tgt := 48) hx hb dX3_sumOf_18 (by decide) rfl rfl (fun c297 => ?_) (fun c297 => ?_)
        · exfalso; omega
        · refine lv_iload_n hx hb dX3_sumOf_21 rfl (lv_at hl 1 rfl) ?_
          refine lv_iload_n hx hb dX3_sumOf_22 rfl (lv_at hl 3 rfl) ?_
          refine lv_iload hx hb dX3_sumOf_23 (lv_at hl 0 rfl) ?_
          refine u_ishr hx hb dX3_sumOf_25 (fun x298 => ?_)
          refine lv_iconst (v := 1) hx hb dX3_sumOf_26 (by decide) ?_
          refine q_iand (M := 1) (k := 1) hx hb dX3_sumOf_27 (by decide) (by decide) (by decide) (fun x299 h300 => ?_)
          refine lv_iconst (v := 1) hx hb dX3_sumOf_28 (by decide) ?_
          have J305 : ∀ (y304 : Int32) (H : Heap) (locs : List Loc) (ls : Array Slot), WS G cI cJ cZ cD cR cT A kp L f0 s H locs → FM kp L ms_X3_sumOf_l f0 f0 → lv_has ls 5 [(4, .int y254), (3, .int y256), (0, .ref h0), (1, .int u1), (2, .ref u2)] → W p l e ({ frames := 1, cells := 0, slots := 0, locals := 40 }) s m ([.ref h0, .int u1, .ref u2] : List Value).toArray below meth c H locs 0 0 (MQ below (QT (po_X3_sumOf_l kp L f0 h0 u1 u2) G cI cJ cZ cD cR cT A kp L) ([.ref h0, .int u1, .ref u2] : List Value).toArray s 0 0 A) (F0 m 40 ls [.int y304, .int y256]) := by
            intro y304 H locs ls hW hF hl
            clear h300
            refine u_iadd hx hb dX3_sumOf_40 (fun x306 => ?_)
            refine lv_istore_n (lv' := [(3, .int x306), (4, .int y254), (0, .ref h0), (1, .int u1), (2, .ref u2)]) hx hb dX3_sumOf_41 rfl hl (by decide) rfl (fun ls hl => ?_)
            refine q_iinc hx hb dX3_sumOf_42 hl (k := 1) rfl rfl rfl (by omega) (by decide) (fun i307 ls h308 hl => ?_)
            have hl : lv_has ls 5 [(4, .int i307), (3, .int x306), (0, .ref h0), (1, .int u1), (2, .ref u2)] := hl
            refine lv_goto (tgt := 5) hx hb dX3_sumOf_45 (by decide) ?_
            exact ih5 i307 x306 (by omega) (by omega) _ _ _ hW hF (lv_sub hl [0, 1, 2, 3, 4] rfl)
          refine q_icmp_ne (Y := 1) (tgt := 39) hx hb dX3_sumOf_29 (by decide) rfl rfl (fun c309 => ?_) (fun c309 => ?_)
          · refine lv_iconst (v := 0) hx hb dX3_sumOf_39 (by decide) ?_
            exact J305 0  _ _ _ hW hF (lv_sub hl [0, 1, 2, 3, 4] rfl)
          · refine lv_aload_n hx hb dX3_sumOf_32 rfl (lv_at hl 4 rfl) ?_
            refine lv_iload hx hb dX3_sumOf_33 (lv_at hl 0 rfl) ?_
            refine gl_284 E hW ru2 ⟨by omega, by omega⟩ dX3_sumOf_35 (fun y310 m311 => ?_)
            refine lv_goto (tgt := 40) hx hb dX3_sumOf_36 (by decide) ?_
            exact J305 y310  _ _ _ hW hF (lv_sub hl [0, 1, 2, 3, 4] rfl)
  have hk313 : (0 : Int32).toInt = 0 := rfl
  have hk314 : (0 : Int32).toInt = 0 := rfl
  exact L257 10 0 0 (by decide) (by omega) _ _ _ hW hF (lv_sub hl [0, 1, 2, 3, 4] rfl)
def ms_X3_sumOf_o : List (Nat × Nat) := []
def po_X3_sumOf_o (kp : Nat → Nat) (L : List Nat) (f0 : Nat → va_E) (h0 : Nat) (u1 : Int32) (u2 : Nat) : Option Value → (Nat → va_E) → Prop := fun v f => (∃ r : Int32, v = some (.int r) ∧ (True)) ∧ FM kp L ms_X3_sumOf_o f0 f
set_option maxHeartbeats 4000000 in
set_option maxRecDepth 100000 in
theorem c_X3_sumOf_o (l : Launch) (G : va_G) (cI cJ cZ cD cR cT : ClassId) (kp : Nat → Nat) (L : List Nat) (f0 : Nat → va_E) (hTH : TH cI cJ cZ cD cR cT kp L f0) (sz : Nat) (h0 : Nat) (u1 : Int32) (u2 : Nat) (rh0 : RK kp L h0 3) (ru2 : RK kp L u2 285) (pu1 : (0 : Int) ≤ u1.toInt) : Met l yX3_sumOf (Cond.code yX3_sumOf cX3_sumOf 5 (some .int) :: wTab) ({ frames := 1, cells := 0, slots := 0, locals := 40 }) (va_Pc [.ref h0, .int u1, .ref u2] (PreW G (tys6 cI cJ cZ cD cR cT) (va_pl L f0) sz)) (QT (po_X3_sumOf_o kp L f0 h0 u1 u2) G cI cJ cZ cD cR cT (va_A (va_pl L f0) sz) kp L) 0 0 (va_A (va_pl L f0) sz) := by
  refine metT (by decide) (Nat.le_of_ble_eq_true rfl) hTH ?_
  intro p e s m below meth c A ls E hW hl
  obtain ⟨hx, hb, -, hml, hown, hts, -, -, -⟩ := id E
  have hF : FM kp L ms_X3_sumOf_o f0 f0 := FM.rf
  have hl : lv_has ls 5 [(0, .ref h0), (1, .int u1), (2, .ref u2)] := hl
  refine lv_iconst (v := 0) hx hb dX3_sumOf_0 (by decide) ?_
  refine lv_istore_n (lv' := [(3, .int 0), (0, .ref h0), (1, .int u1), (2, .ref u2)]) hx hb dX3_sumOf_1 rfl hl (by decide) rfl (fun ls hl => ?_)
  refine lv_iconst (v := 0) hx hb dX3_sumOf_2 (by decide) ?_
  refine lv_istore (lv' := [(4, .int 0), (3, .int 0), (0, .ref h0), (1, .int u1), (2, .ref u2)]) hx hb dX3_sumOf_3 hl (by decide) rfl (fun ls hl => ?_)
  have L257 : ∀ (n : Nat), ∀ (y254 : Int32) (y256 : Int32) (b255 : (0 : Int) ≤ y254.toInt ∧ y254.toInt ≤ 9) (hm : (10 : Int) - y254.toInt ≤ n) (H : Heap) (locs : List Loc) (ls : Array Slot), WS G cI cJ cZ cD cR cT A kp L f0 s H locs → FM kp L ms_X3_sumOf_o f0 f0 → lv_has ls 5 [(4, .int y254), (3, .int y256), (0, .ref h0), (1, .int u1), (2, .ref u2)] → W p l e ({ frames := 1, cells := 0, slots := 0, locals := 40 }) s m ([.ref h0, .int u1, .ref u2] : List Value).toArray below meth c H locs 0 0 (MQ below (QT (po_X3_sumOf_o kp L f0 h0 u1 u2) G cI cJ cZ cD cR cT A kp L) ([.ref h0, .int u1, .ref u2] : List Value).toArray s 0 0 A) (F0 m 5 ls []) := by
    intro n
    induction n with
    | zero =>
      intro y254 y256 b255 hm H locs ls hW hF hl
      have hz := i32_b y254
      exfalso; omega
    | succ n ih =>
      intro y254 y256 b255 hm H locs ls hW hF hl
      have ih5 := ih
      refine lv_iload hx hb dX3_sumOf_5 (lv_at hl 0 rfl) ?_
      refine lv_aload_n hx hb dX3_sumOf_7 rfl (lv_at hl 2 rfl) ?_
      refine fg_RX3_22 E hW rh0 dX3_sumOf_8 (fun y258 m259 b260 => ?_)
      refine q_icmp_ge (tgt := 48) hx hb dX3_sumOf_11 (by decide) rfl rfl (fun c279 => ?_) (fun c279 => ?_)
      · refine lv_iload_n hx hb dX3_sumOf_48 rfl (lv_at hl 1 rfl) ?_
        exact e_I E hW rfl ⟨⟨_, rfl, trivial⟩, hF⟩ dX3_sumOf_49
      · refine lv_iload hx hb dX3_sumOf_14 (lv_at hl 0 rfl) ?_
        refine lv_aload_n hx hb dX3_sumOf_16 rfl (lv_at hl 4 rfl) ?_
        refine r_alen E hW ru2 (by decide) dX3_sumOf_17 (fun n280 h281 => ?_) (by rw [lenOk_n (th_len hW ru2 (by decide)) rfl (by decide)]; decide)
        rw [lenOk_n (th_len hW ru2 (by decide)) rfl (by decide)] at h281
        obtain rfl : (9 : Int32) = n280 := Int32.toInt_inj.mp (Eq.trans (by decide) h281.symm)
        refine q_icmp_ge (Y := 9) (tgt := 48) hx hb dX3_sumOf_18 (by decide) rfl rfl (fun c297 => ?_) (fun c297 => ?_)
        · exfalso; omega
        · refine lv_iload_n hx hb dX3_sumOf_21 rfl (lv_at hl 1 rfl) ?_
          refine lv_iload_n hx hb dX3_sumOf_22 rfl (lv_at hl 3 rfl) ?_
          refine lv_iload hx hb dX3_sumOf_23 (lv_at hl 0 rfl) ?_
          refine u_ishr hx hb dX3_sumOf_25 (fun x298 => ?_)
          refine lv_iconst (v := 1) hx hb dX3_sumOf_26 (by decide) ?_
          refine q_iand (M := 1) (k := 1) hx hb dX3_sumOf_27 (by decide) (by decide) (by decide) (fun x299 h300 => ?_)
          refine lv_iconst (v := 1) hx hb dX3_sumOf_28 (by decide) ?_
          have J305 : ∀ (y304 : Int32) (H : Heap) (locs : List Loc) (ls : Array Slot), WS G cI cJ cZ cD cR cT A kp L f0 s H locs → FM kp L ms_X3_sumOf_o f0 f0 → lv_has ls 5 [(4, .int y254), (3, .int y256), (0, .ref h0), (1, .int u1), (2, .ref u2)] → W p l e ({ frames := 1, cells := 0, slots := 0, locals := 40 }) s m ([.ref h0, .int u1, .ref u2] : List Value).toArray below meth c H locs 0 0 (MQ below (QT (po_X3_sumOf_o kp L f0 h0 u1 u2) G cI cJ cZ cD cR cT A kp L) ([.ref h0, .int u1, .ref u2] : List Value).toArray s 0 0 A) (F0 m 40 ls [.int y304, .int y256]) := by
            intro y304 H locs ls hW hF hl
            clear h300
            refine u_iadd hx hb dX3_sumOf_40 (fun x306 => ?_)
            refine lv_istore_n (lv' := [(3, .int x306), (4, .int y254), (0, .ref h0), (1, .int u1), (2, .ref u2)]) hx hb dX3_sumOf_41 rfl hl (by decide) rfl (fun ls hl => ?_)
            refine q_iinc hx hb dX3_sumOf_42 hl (k := 1) rfl rfl rfl (by omega) (by decide) (fun i307 ls h308 hl => ?_)
            have hl : lv_has ls 5 [(4, .int i307), (3, .int x306), (0, .ref h0), (1, .int u1), (2, .ref u2)] := hl
            refine lv_goto (tgt := 5) hx hb dX3_sumOf_45 (by decide) ?_
            exact ih5 i307 x306 (by omega) (by omega) _ _ _ hW hF (lv_sub hl [0, 1, 2, 3, 4] rfl)
          refine q_icmp_ne (Y := 1) (tgt := 39) hx hb dX3_sumOf_29 (by decide) rfl rfl (fun c309 => ?_) (fun c309 => ?_)
          · refine lv_iconst (v := 0) hx hb dX3_sumOf_39 (by decide) ?_
            exact J305 0  _ _ _ hW hF (lv_sub hl [0, 1, 2, 3, 4] rfl)
          · refine lv_aload_n hx hb dX3_sumOf_32 rfl (lv_at hl 4 rfl) ?_
            refine lv_iload hx hb dX3_sumOf_33 (lv_at hl 0 rfl) ?_
            refine gl_285 E hW ru2 ⟨by omega, by omega⟩ dX3_sumOf_35 (fun y310 m311 => ?_)
            refine lv_goto (tgt := 40) hx hb dX3_sumOf_36 (by decide) ?_
            exact J305 y310  _ _ _ hW hF (lv_sub hl [0, 1, 2, 3, 4] rfl)
  have hk313 : (0 : Int32).toInt = 0 := rfl
  have hk314 : (0 : Int32).toInt = 0 := rfl
  exact L257 10 0 0 (by decide) (by omega) _ _ _ hW hF (lv_sub hl [0, 1, 2, 3, 4] rfl)
def ms_X3_bestSet : List (Nat × Nat) := []
def po_X3_bestSet (kp : Nat → Nat) (L : List Nat) (f0 : Nat → va_E) (h0 : Nat) (u1 : Int32) (u2 : Int32) : Option Value → (Nat → va_E) → Prop := fun v f => (∃ r : Int32, v = some (.int r) ∧ ((-1 : Int) ≤ r.toInt)) ∧ FM kp L ms_X3_bestSet f0 f
set_option maxHeartbeats 4000000 in
set_option maxRecDepth 100000 in
theorem c_X3_bestSet (l : Launch) (G : va_G) (cI cJ cZ cD cR cT : ClassId) (kp : Nat → Nat) (L : List Nat) (f0 : Nat → va_E) (hTH : TH cI cJ cZ cD cR cT kp L f0) (sz : Nat) (h0 : Nat) (u1 : Int32) (u2 : Int32) (rh0 : RK kp L h0 3) (pu1 : (-10000 : Int) ≤ u1.toInt ∧ u1.toInt ≤ 10000) (pu2 : (-10000 : Int) ≤ u2.toInt ∧ u2.toInt ≤ 10000) : Met l yX3_bestSet (Cond.code yX3_bestSet cX3_bestSet 9 (some .int) :: wTab) ({ frames := 2, cells := 0, slots := 0, locals := 64 }) (va_Pc [.ref h0, .int u1, .int u2] (PreW G (tys6 cI cJ cZ cD cR cT) (va_pl L f0) sz)) (QT (po_X3_bestSet kp L f0 h0 u1 u2) G cI cJ cZ cD cR cT (va_A (va_pl L f0) sz) kp L) 0 0 (va_A (va_pl L f0) sz) := by
  refine metT (by decide) (Nat.le_of_ble_eq_true rfl) hTH ?_
  intro p e s m below meth c A ls E hW hl
  obtain ⟨hx, hb, -, hml, hown, hts, -, -, -⟩ := id E
  have hF : FM kp L ms_X3_bestSet f0 f0 := FM.rf
  have hl : lv_has ls 9 [(0, .ref h0), (1, .int u1), (2, .int u2)] := hl
  refine lv_iconst (v := (-1)) hx hb dX3_bestSet_0 (by decide) ?_
  refine lv_istore_n (lv' := [(3, .int (-1)), (0, .ref h0), (1, .int u1), (2, .int u2)]) hx hb dX3_bestSet_1 rfl hl (by decide) rfl (fun ls hl => ?_)
  refine lv_iconst (v := 0) hx hb dX3_bestSet_2 (by decide) ?_
  refine lv_istore (lv' := [(4, .int 0), (3, .int (-1)), (0, .ref h0), (1, .int u1), (2, .int u2)]) hx hb dX3_bestSet_3 hl (by decide) rfl (fun ls hl => ?_)
  refine lv_iconst (v := 0) hx hb dX3_bestSet_5 (by decide) ?_
  refine lv_istore (lv' := [(5, .int 0), (4, .int 0), (3, .int (-1)), (0, .ref h0), (1, .int u1), (2, .int u2)]) hx hb dX3_bestSet_6 hl (by decide) rfl (fun ls hl => ?_)
  have L8154 : ∀ (n : Nat), ∀ (f8148 : Nat → va_E) (y8149 : Int32) (y8151 : Int32) (y8152 : Int32) (b8150 : (0 : Int) ≤ y8149.toInt) (b8153 : (-1 : Int) ≤ y8152.toInt) (hm : (2147483648 : Int) - y8149.toInt ≤ n) (H : Heap) (locs : List Loc) (ls : Array Slot), WS G cI cJ cZ cD cR cT A kp L f8148 s H locs → FM kp L ms_X3_bestSet f0 f8148 → lv_has ls 9 [(5, .int y8149), (4, .int y8151), (3, .int y8152), (0, .ref h0), (1, .int u1), (2, .int u2)] → W p l e ({ frames := 2, cells := 0, slots := 0, locals := 64 }) s m ([.ref h0, .int u1, .int u2] : List Value).toArray below meth c H locs 0 0 (MQ below (QT (po_X3_bestSet kp L f0 h0 u1 u2) G cI cJ cZ cD cR cT A kp L) ([.ref h0, .int u1, .int u2] : List Value).toArray s 0 0 A) (F0 m 8 ls []) := by
    intro n
    induction n with
    | zero =>
      intro f8148 y8149 y8151 y8152 b8150 b8153 hm H locs ls hW hF hl
      have hz := i32_b y8149
      exfalso; omega
    | succ n ih =>
      intro f8148 y8149 y8151 y8152 b8150 b8153 hm H locs ls hW hF hl
      have ih8 := ih
      refine lv_iload hx hb dX3_bestSet_8 (lv_at hl 0 rfl) ?_
      refine lv_iconst (v := 1) hx hb dX3_bestSet_10 (by decide) ?_
      refine lv_aload_n hx hb dX3_bestSet_11 rfl (lv_at hl 3 rfl) ?_
      refine fg_RX3_22 E hW rh0 dX3_bestSet_12 (fun y8155 m8156 b8157 => ?_)
      refine u_ishl hx hb dX3_bestSet_15 (fun x8158 => ?_)
      refine q_icmp_ge (tgt := 115) hx hb dX3_bestSet_16 (by decide) rfl rfl (fun c8278 => ?_) (fun c8278 => ?_)
      · refine lv_iload_n hx hb dX3_bestSet_115 rfl (lv_at hl 2 rfl) ?_
        exact e_I E hW rfl ⟨⟨_, rfl, (by first | omega | trivial)⟩, hF⟩ dX3_bestSet_116
      · have hb8279 : y8149.toInt ≤ 2147483646 := by have := i32_b x8158; omega
        refine lv_aload_n hx hb dX3_bestSet_19 rfl (lv_at hl 3 rfl) ?_
        refine lv_iload hx hb dX3_bestSet_20 (lv_at hl 0 rfl) ?_
        refine lv_aload_n hx hb dX3_bestSet_22 rfl (lv_at hl 3 rfl) ?_
        refine fg_RX3_15 E hW rh0 dX3_bestSet_23 (fun a8280 m8281 r8282 => ?_)
        refine t_callV (As := [.int y8149, .ref a8280]) (rest := []) E hW (c_X3_sumOf_l l G cI cJ cZ cD cR cT kp L f8148 hW.2.2.2 _ h0 y8149 a8280 rh0 r8282 (by omega)) rh0 (by decide) rfl wk_X3_sumOf tw_1242 rfl ⟨Nat.le_of_ble_eq_true rfl, Nat.le_of_ble_eq_true rfl⟩ ⟨rfl, rfl⟩ hl.1 rfl (Nat.le_of_ble_eq_true rfl) dX3_bestSet_26 ⟨Nat.le_of_ble_eq_true rfl, Nat.le_of_ble_eq_true rfl⟩ (fun v8283 f8284 H locs q8285 hW => ?_)
        obtain ⟨⟨x8287, rfl, p8288⟩, g8286⟩ := q8285
        clear p8288
        have hF := FM.tr hF g8286 rfl
        refine lv_istore (lv' := [(6, .int x8287), (5, .int y8149), (4, .int y8151), (3, .int y8152), (0, .ref h0), (1, .int u1), (2, .int u2)]) hx hb dX3_bestSet_29 hl (by decide) rfl (fun ls hl => ?_)
        refine lv_aload_n hx hb dX3_bestSet_31 rfl (lv_at hl 4 rfl) ?_
        refine lv_iload hx hb dX3_bestSet_32 (lv_at hl 1 rfl) ?_
        refine lv_aload_n hx hb dX3_bestSet_34 rfl (lv_at hl 4 rfl) ?_
        refine fg_RX3_19 E hW rh0 dX3_bestSet_35 (fun a8289 m8290 r8291 => ?_)
        refine t_callV (As := [.int y8149, .ref a8289]) (rest := []) E hW (c_X3_sumOf_o l G cI cJ cZ cD cR cT kp L f8284 hW.2.2.2 _ h0 y8149 a8289 rh0 r8291 (by omega)) rh0 (by decide) rfl wk_X3_sumOf tw_1242 rfl ⟨Nat.le_of_ble_eq_true rfl, Nat.le_of_ble_eq_true rfl⟩ ⟨rfl, rfl⟩ hl.1 rfl (Nat.le_of_ble_eq_true rfl) dX3_bestSet_38 ⟨Nat.le_of_ble_eq_true rfl, Nat.le_of_ble_eq_true rfl⟩ (fun v8292 f8293 H locs q8294 hW => ?_)
        obtain ⟨⟨x8296, rfl, p8297⟩, g8295⟩ := q8294
        clear p8297
        have hF := FM.tr hF g8295 rfl
        refine lv_istore (lv' := [(7, .int x8296), (6, .int x8287), (5, .int y8149), (4, .int y8151), (3, .int y8152), (0, .ref h0), (1, .int u1), (2, .int u2)]) hx hb dX3_bestSet_41 hl (by decide) rfl (fun ls hl => ?_)
        refine lv_iload hx hb dX3_bestSet_43 (lv_at hl 1 rfl) ?_
        refine lv_iload_n hx hb dX3_bestSet_45 rfl (lv_at hl 6 rfl) ?_
        have J8350 : ∀ (f8343 : Nat → va_E) (y8347 : Int32) (y8348 : Int32) (m8344 : oI (f8343 h0) 3 = y8155) (m8345 : oR (f8343 h0) 4 = a8280) (m8346 : oR (f8343 h0) 5 = a8289) (b8349 : (-1 : Int) ≤ y8348.toInt) (H : Heap) (locs : List Loc) (ls : Array Slot), WS G cI cJ cZ cD cR cT A kp L f8343 s H locs → FM kp L ms_X3_bestSet f0 f8343 → lv_has ls 9 [(7, .int x8296), (6, .int x8287), (5, .int y8149), (4, .int y8347), (3, .int y8348), (0, .ref h0), (1, .int u1), (2, .int u2)] → W p l e ({ frames := 2, cells := 0, slots := 0, locals := 64 }) s m ([.ref h0, .int u1, .int u2] : List Value).toArray below meth c H locs 0 0 (MQ below (QT (po_X3_bestSet kp L f0 h0 u1 u2) G cI cJ cZ cD cR cT A kp L) ([.ref h0, .int u1, .int u2] : List Value).toArray s 0 0 A) (F0 m 109 ls []) := by
          intro f8343 y8347 y8348 m8344 m8345 m8346 b8349 H locs ls hW hF hl
          clear b8153
          refine q_iinc hx hb dX3_bestSet_109 hl (k := 2) rfl rfl rfl (by omega) (by decide) (fun i8351 ls h8352 hl => ?_)
          have hl : lv_has ls 9 [(5, .int i8351), (7, .int x8296), (6, .int x8287), (4, .int y8347), (3, .int y8348), (0, .ref h0), (1, .int u1), (2, .int u2)] := hl
          refine lv_goto (tgt := 8) hx hb dX3_bestSet_112 (by decide) ?_
          exact ih8 f8343 i8351 y8347 y8348 (by omega) (by omega) (by omega) _ _ _ hW hF (lv_sub hl [0, 3, 4, 5, 6, 7] rfl)
        refine q_icmp_lt (tgt := 109) hx hb dX3_bestSet_46 (by decide) rfl rfl (fun c8353 => ?_) (fun c8353 => ?_)
        · exact J8350 f8293 y8151 y8152 ((fm_I g8295 rh0 rfl).trans ((fm_I g8286 rh0 rfl).trans m8156)) ((fm_R g8295 rh0 rfl).trans ((fm_R g8286 rh0 rfl).trans m8281)) ((fm_R g8295 rh0 rfl).trans m8290) (by omega) _ _ _ hW hF (lv_sub hl [0, 1, 2, 3, 4, 5, 6, 7] rfl)
        · refine lv_iload hx hb dX3_bestSet_49 (lv_at hl 0 rfl) ?_
          refine lv_iload_n hx hb dX3_bestSet_51 rfl (lv_at hl 7 rfl) ?_
          refine q_icmp_ge (tgt := 58) hx hb dX3_bestSet_52 (by decide) rfl rfl (fun c8354 => ?_) (fun c8354 => ?_)
          · refine lv_iload_n hx hb dX3_bestSet_58 rfl (lv_at hl 4 rfl) ?_
            refine lv_iconst (v := (-1)) hx hb dX3_bestSet_59 (by decide) ?_
            have J8375 : ∀ (f8369 : Nat → va_E) (y8373 : Int32) (m8370 : oI (f8369 h0) 3 = y8155) (m8371 : oR (f8369 h0) 4 = a8280) (m8372 : oR (f8369 h0) 5 = a8289) (b8374 : (-63 : Int) ≤ y8373.toInt ∧ y8373.toInt ≤ 63) (H : Heap) (locs : List Loc) (ls : Array Slot), WS G cI cJ cZ cD cR cT A kp L f8369 s H locs → FM kp L ms_X3_bestSet f0 f8369 → lv_has ls 9 [(7, .int x8296), (6, .int x8287), (5, .int y8149), (4, .int y8151), (3, .int y8152), (0, .ref h0), (1, .int u1), (2, .int u2)] → W p l e ({ frames := 2, cells := 0, slots := 0, locals := 64 }) s m ([.ref h0, .int u1, .int u2] : List Value).toArray below meth c H locs 0 0 (MQ below (QT (po_X3_bestSet kp L f0 h0 u1 u2) G cI cJ cZ cD cR cT A kp L) ([.ref h0, .int u1, .int u2] : List Value).toArray s 0 0 A) (F0 m 77 ls [.int y8373]) := by
              intro f8369 y8373 m8370 m8371 m8372 b8374 H locs ls hW hF hl
              refine lv_istore (lv' := [(8, .int y8373), (7, .int x8296), (6, .int x8287), (5, .int y8149), (4, .int y8151), (3, .int y8152), (0, .ref h0), (1, .int u1), (2, .int u2)]) hx hb dX3_bestSet_77 hl (by decide) rfl (fun ls hl => ?_)
              refine lv_iload hx hb dX3_bestSet_79 (lv_at hl 0 rfl) ?_
              refine q_if_gt (tgt := 99) hx hb dX3_bestSet_81 (by decide) rfl (fun c8376 => ?_) (fun c8376 => ?_)
              · refine lv_iload hx hb dX3_bestSet_99 (lv_at hl 3 rfl) ?_
                refine lv_istore_n (lv' := [(3, .int y8149), (8, .int y8373), (7, .int x8296), (6, .int x8287), (5, .int y8149), (4, .int y8151), (0, .ref h0), (1, .int u1), (2, .int u2)]) hx hb dX3_bestSet_101 rfl hl (by decide) rfl (fun ls hl => ?_)
                refine lv_iload hx hb dX3_bestSet_102 (lv_at hl 3 rfl) ?_
                refine lv_iload hx hb dX3_bestSet_104 (lv_at hl 2 rfl) ?_
                refine u_iadd hx hb dX3_bestSet_106 (fun x8377 => ?_)
                refine lv_istore (lv' := [(4, .int x8377), (3, .int y8149), (8, .int y8373), (7, .int x8296), (6, .int x8287), (5, .int y8149), (0, .ref h0), (1, .int u1), (2, .int u2)]) hx hb dX3_bestSet_107 hl (by decide) rfl (fun ls hl => ?_)
                exact J8350 f8369 x8377 y8149 m8370 m8371 m8372 (by omega) _ _ _ hW hF (lv_sub hl [3, 4, 5, 0, 1, 6, 7, 8] rfl)
              · refine lv_iload hx hb dX3_bestSet_84 (lv_at hl 0 rfl) ?_
                refine q_if_ne (tgt := 109) hx hb dX3_bestSet_86 (by decide) rfl (fun c8378 => ?_) (fun c8378 => ?_)
                · exact J8350 f8369 y8151 y8152 m8370 m8371 m8372 (by omega) _ _ _ hW hF (lv_sub hl [1, 2, 3, 4, 5, 6, 7, 8] rfl)
                · refine lv_iload hx hb dX3_bestSet_89 (lv_at hl 2 rfl) ?_
                  refine lv_iload hx hb dX3_bestSet_91 (lv_at hl 1 rfl) ?_
                  refine u_iadd hx hb dX3_bestSet_93 (fun x8379 => ?_)
                  refine lv_iload hx hb dX3_bestSet_94 (lv_at hl 4 rfl) ?_
                  refine q_icmp_le (tgt := 109) hx hb dX3_bestSet_96 (by decide) rfl rfl (fun c8380 => ?_) (fun c8380 => ?_)
                  · exact J8350 f8369 y8151 y8152 m8370 m8371 m8372 (by omega) _ _ _ hW hF (lv_sub hl [1, 2, 3, 4, 5, 6, 7, 8] rfl)
                  · have hb8381 : y8151.toInt ≤ 2147483646 := by have := i32_b x8379; omega
                    have hb8382 : -2147483647 ≤ x8379.toInt := by have := i32_b y8151; omega
                    refine lv_iload hx hb dX3_bestSet_99 (lv_at hl 3 rfl) ?_
                    refine lv_istore_n (lv' := [(3, .int y8149), (8, .int y8373), (7, .int x8296), (6, .int x8287), (5, .int y8149), (4, .int y8151), (0, .ref h0), (1, .int u1), (2, .int u2)]) hx hb dX3_bestSet_101 rfl hl (by decide) rfl (fun ls hl => ?_)
                    refine lv_iload hx hb dX3_bestSet_102 (lv_at hl 3 rfl) ?_
                    refine lv_iload hx hb dX3_bestSet_104 (lv_at hl 2 rfl) ?_
                    refine u_iadd hx hb dX3_bestSet_106 (fun x8383 => ?_)
                    refine lv_istore (lv' := [(4, .int x8383), (3, .int y8149), (8, .int y8373), (7, .int x8296), (6, .int x8287), (5, .int y8149), (0, .ref h0), (1, .int u1), (2, .int u2)]) hx hb dX3_bestSet_107 hl (by decide) rfl (fun ls hl => ?_)
                    exact J8350 f8369 x8383 y8149 m8370 m8371 m8372 (by omega) _ _ _ hW hF (lv_sub hl [3, 4, 5, 0, 1, 6, 7, 8] rfl)
            refine q_icmp_ne (Y := -1) (tgt := 67) hx hb dX3_bestSet_60 (by decide) rfl rfl (fun c8384 => ?_) (fun c8384 => ?_)
            · refine lv_iload_n hx hb dX3_bestSet_67 rfl (lv_at hl 4 rfl) ?_
              refine t_callS (As := [.int y8152]) (rest := []) E hW (c_J6_bitCount_0f7a4 l G cI cJ cZ cD cR cT kp L f8293 hW.2.2.2 _ y8152 (by omega)) wk_J6_bitCount_0f7a4 tw_1246 rfl ⟨Nat.le_of_ble_eq_true rfl, Nat.le_of_ble_eq_true rfl⟩ ⟨rfl, rfl⟩ hl.1 rfl (Nat.le_of_ble_eq_true rfl) dX3_bestSet_68 ⟨Nat.le_of_ble_eq_true rfl, Nat.le_of_ble_eq_true rfl⟩ (fun v8385 f8386 H locs q8387 hW => ?_)
              obtain ⟨⟨x8389, rfl, p8390⟩, g8388⟩ := q8387
              have hF := FM.tr hF g8388 rfl
              refine lv_iload hx hb dX3_bestSet_71 (lv_at hl 2 rfl) ?_
              refine t_callS (As := [.int y8149]) (rest := [.int x8389]) E hW (c_J6_bitCount_0f7a4 l G cI cJ cZ cD cR cT kp L f8386 hW.2.2.2 _ y8149 (by omega)) wk_J6_bitCount_0f7a4 tw_1246 rfl ⟨Nat.le_of_ble_eq_true rfl, Nat.le_of_ble_eq_true rfl⟩ ⟨rfl, rfl⟩ hl.1 rfl (Nat.le_of_ble_eq_true rfl) dX3_bestSet_73 ⟨Nat.le_of_ble_eq_true rfl, Nat.le_of_ble_eq_true rfl⟩ (fun v8391 f8392 H locs q8393 hW => ?_)
              obtain ⟨⟨x8395, rfl, p8396⟩, g8394⟩ := q8393
              have hF := FM.tr hF g8394 rfl
              refine q_isub hx hb dX3_bestSet_76 rfl rfl (by omega) (fun x8397 h8398 => ?_)
              exact J8375 f8392 x8397 ((fm_I g8394 rh0 rfl).trans ((fm_I g8388 rh0 rfl).trans ((fm_I g8295 rh0 rfl).trans ((fm_I g8286 rh0 rfl).trans m8156)))) ((fm_R g8394 rh0 rfl).trans ((fm_R g8388 rh0 rfl).trans ((fm_R g8295 rh0 rfl).trans ((fm_R g8286 rh0 rfl).trans m8281)))) ((fm_R g8394 rh0 rfl).trans ((fm_R g8388 rh0 rfl).trans ((fm_R g8295 rh0 rfl).trans m8290))) (by omega) _ _ _ hW hF (lv_sub hl [0, 1, 2, 3, 4, 5, 6, 7] rfl)
            · refine lv_iconst (v := 1) hx hb dX3_bestSet_63 (by decide) ?_
              refine lv_goto (tgt := 77) hx hb dX3_bestSet_64 (by decide) ?_
              exact J8375 f8293 1 ((fm_I g8295 rh0 rfl).trans ((fm_I g8286 rh0 rfl).trans m8156)) ((fm_R g8295 rh0 rfl).trans ((fm_R g8286 rh0 rfl).trans m8281)) ((fm_R g8295 rh0 rfl).trans m8290) (by decide) _ _ _ hW hF (lv_sub hl [0, 1, 2, 3, 4, 5, 6, 7] rfl)
          · refine lv_goto (tgt := 109) hx hb dX3_bestSet_55 (by decide) ?_
            exact J8350 f8293 y8151 y8152 ((fm_I g8295 rh0 rfl).trans ((fm_I g8286 rh0 rfl).trans m8156)) ((fm_R g8295 rh0 rfl).trans ((fm_R g8286 rh0 rfl).trans m8281)) ((fm_R g8295 rh0 rfl).trans m8290) (by omega) _ _ _ hW hF (lv_sub hl [0, 1, 2, 3, 4, 5, 6, 7] rfl)
  have hk8399 : (0 : Int32).toInt = 0 := rfl
  have hk8400 : (0 : Int32).toInt = 0 := rfl
  have hk8401 : ((-1) : Int32).toInt = -1 := rfl
  exact L8154 2147483648 f0 0 0 (-1) (by decide) (by decide) (by omega) _ _ _ hW hF (lv_sub hl [0, 1, 2, 3, 4, 5] rfl)
def ms_X3_copyFrom : List (Nat × Nat) := [(3, 0), (3, 1), (3, 2), (3, 3), (284, 0), (285, 0)]
def po_X3_copyFrom (kp : Nat → Nat) (L : List Nat) (f0 : Nat → va_E) (h0 : Nat) (u1 : Nat) : Option Value → (Nat → va_E) → Prop := fun v f => v = none ∧ FM kp L ms_X3_copyFrom f0 f
set_option maxHeartbeats 4000000 in
set_option maxRecDepth 100000 in
theorem c_X3_copyFrom (l : Launch) (G : va_G) (cI cJ cZ cD cR cT : ClassId) (kp : Nat → Nat) (L : List Nat) (f0 : Nat → va_E) (hTH : TH cI cJ cZ cD cR cT kp L f0) (sz : Nat) (h0 : Nat) (u1 : Nat) (rh0 : RK kp L h0 3) (ru1 : RK kp L u1 3) : Met l yX3_copyFrom (Cond.code yX3_copyFrom cX3_copyFrom 2 none :: wTab) ({ frames := 1, cells := 0, slots := 0, locals := 60 }) (va_Pc [.ref h0, .ref u1] (PreW G (tys6 cI cJ cZ cD cR cT) (va_pl L f0) sz)) (QT (po_X3_copyFrom kp L f0 h0 u1) G cI cJ cZ cD cR cT (va_A (va_pl L f0) sz) kp L) 0 0 (va_A (va_pl L f0) sz) := by
  refine metT (by decide) (Nat.le_of_ble_eq_true rfl) hTH ?_
  intro p e s m below meth c A ls E hW hl
  obtain ⟨hx, hb, -, hml, hown, hts, -, -, -⟩ := id E
  have hF : FM kp L ms_X3_copyFrom f0 f0 := FM.rf
  have hl : lv_has ls 2 [(0, .ref h0), (1, .ref u1)] := hl
  refine lv_aload_n hx hb dX3_copyFrom_0 rfl (lv_at hl 0 rfl) ?_
  refine lv_aload_n hx hb dX3_copyFrom_1 rfl (lv_at hl 1 rfl) ?_
  refine fg_RX3_35 E hW ru1 dX3_copyFrom_2 (fun y1 m2 => ?_)
  refine fp_RX3_35 E hW rh0 dX3_copyFrom_5 (fun f4 H locs e5 n6 g7 hW => ?_)
  have hF := FM.tr hF g7 rfl
  refine lv_aload_n hx hb dX3_copyFrom_8 rfl (lv_at hl 0 rfl) ?_
  refine lv_aload_n hx hb dX3_copyFrom_9 rfl (lv_at hl 1 rfl) ?_
  refine fg_RX3_9 E hW ru1 dX3_copyFrom_10 (fun y8 m9 => ?_)
  refine fp_RX3_9 E hW rh0 dX3_copyFrom_13 (fun f11 H locs e12 n13 g14 hW => ?_)
  have hF := FM.tr hF g14 rfl
  refine lv_aload_n hx hb dX3_copyFrom_16 rfl (lv_at hl 0 rfl) ?_
  refine lv_aload_n hx hb dX3_copyFrom_17 rfl (lv_at hl 1 rfl) ?_
  refine fg_RX3_38 E hW ru1 dX3_copyFrom_18 (fun y15 m16 => ?_)
  refine fp_RX3_38 E hW rh0 dX3_copyFrom_21 (fun f18 H locs e19 n20 g21 hW => ?_)
  have hF := FM.tr hF g21 rfl
  refine lv_aload_n hx hb dX3_copyFrom_24 rfl (lv_at hl 0 rfl) ?_
  refine lv_aload_n hx hb dX3_copyFrom_25 rfl (lv_at hl 1 rfl) ?_
  refine fg_RX3_22 E hW ru1 dX3_copyFrom_26 (fun y22 m23 b24 => ?_)
  refine fp_RX3_22 E hW rh0 (by omega) dX3_copyFrom_29 (fun f25 H locs e26 n27 g28 hW => ?_)
  have hF := FM.tr hF g28 rfl
  refine lv_aload_n hx hb dX3_copyFrom_32 rfl (lv_at hl 1 rfl) ?_
  refine fg_RX3_15 E hW ru1 dX3_copyFrom_33 (fun a29 m30 r31 => ?_)
  refine lv_iconst (v := 0) hx hb dX3_copyFrom_36 (by decide) ?_
  refine lv_aload_n hx hb dX3_copyFrom_37 rfl (lv_at hl 0 rfl) ?_
  refine fg_RX3_15 E hW rh0 dX3_copyFrom_38 (fun a32 m33 r34 => ?_)
  refine lv_iconst (v := 0) hx hb dX3_copyFrom_41 (by decide) ?_
  refine lv_bipush (v := 9) hx hb dX3_copyFrom_42 (by decide) ?_
  refine t_copy (N := 9) (n0 := 9) (n1 := 9) E hW tw_1317 ⟨tw_1004, tw_1003, tw_122⟩ hl.1 rfl r31 (by decide) rfl r34 (by decide) rfl rfl (by decide) rfl (by decide) (by decide) (by decide) (fun _ _ => trivial) ⟨Nat.le_of_ble_eq_true rfl, Nat.le_of_ble_eq_true rfl⟩ dX3_copyFrom_44 (fun f35 H locs n37 g38 hW => ?_)
  have hF := FM.tr hF g38 rfl
  refine lv_aload_n hx hb dX3_copyFrom_47 rfl (lv_at hl 1 rfl) ?_
  refine fg_RX3_19 E hW ru1 dX3_copyFrom_48 (fun a39 m40 r41 => ?_)
  refine lv_iconst (v := 0) hx hb dX3_copyFrom_51 (by decide) ?_
  refine lv_aload_n hx hb dX3_copyFrom_52 rfl (lv_at hl 0 rfl) ?_
  refine fg_RX3_19 E hW rh0 dX3_copyFrom_53 (fun a42 m43 r44 => ?_)
  refine lv_iconst (v := 0) hx hb dX3_copyFrom_56 (by decide) ?_
  refine lv_bipush (v := 9) hx hb dX3_copyFrom_57 (by decide) ?_
  refine t_copy (N := 9) (n0 := 9) (n1 := 9) E hW tw_1317 ⟨tw_1004, tw_1003, tw_122⟩ hl.1 rfl r41 (by decide) rfl r44 (by decide) rfl rfl (by decide) rfl (by decide) (by decide) (by decide) (fun _ _ => trivial) ⟨Nat.le_of_ble_eq_true rfl, Nat.le_of_ble_eq_true rfl⟩ dX3_copyFrom_59 (fun f45 H locs n47 g48 hW => ?_)
  have hF := FM.tr hF g48 rfl
  exact e_V E hW rfl ⟨rfl, hF⟩ dX3_copyFrom_62
def ms_X2_add : List (Nat × Nat) := [(2, 0), (221, 0)]
def po_X2_add (kp : Nat → Nat) (L : List Nat) (f0 : Nat → va_E) (h0 : Nat) (u1 : Nat) : Option Value → (Nat → va_E) → Prop := fun v f => (∃ r : Int32, v = some (.int r) ∧ ((-1 : Int) ≤ r.toInt ∧ r.toInt ≤ 19)) ∧ FM kp L ms_X2_add f0 f
set_option maxHeartbeats 4000000 in
set_option maxRecDepth 100000 in
theorem c_X2_add (l : Launch) (G : va_G) (cI cJ cZ cD cR cT : ClassId) (kp : Nat → Nat) (L : List Nat) (f0 : Nat → va_E) (hTH : TH cI cJ cZ cD cR cT kp L f0) (sz : Nat) (h0 : Nat) (u1 : Nat) (rh0 : RK kp L h0 2) (ru1 : RK kp L u1 9) : Met l yX2_add (Cond.code yX2_add cX2_add 2 (some .int) :: wTab) ({ frames := 1, cells := 0, slots := 0, locals := 40 }) (va_Pc [.ref h0, .ref u1] (PreW G (tys6 cI cJ cZ cD cR cT) (va_pl L f0) sz)) (QT (po_X2_add kp L f0 h0 u1) G cI cJ cZ cD cR cT (va_A (va_pl L f0) sz) kp L) 0 0 (va_A (va_pl L f0) sz) := by
  refine metT (by decide) (Nat.le_of_ble_eq_true rfl) hTH ?_
  intro p e s m below meth c A ls E hW hl
  obtain ⟨hx, hb, -, hml, hown, hts, -, -, -⟩ := id E
  have hF : FM kp L ms_X2_add f0 f0 := FM.rf
  have hl : lv_has ls 2 [(0, .ref h0), (1, .ref u1)] := hl
  refine lv_aload_n hx hb dX2_add_0 rfl (lv_at hl 0 rfl) ?_
  refine fg_RX2_24 E hW rh0 dX2_add_1 (fun y1 m2 b3 => ?_)
  refine lv_bipush (v := 20) hx hb dX2_add_4 (by decide) ?_
  refine q_icmp_lt (Y := 20) (tgt := 11) hx hb dX2_add_6 (by decide) rfl rfl (fun c4 => ?_) (fun c4 => ?_)
  · refine lv_aload_n hx hb dX2_add_11 rfl (lv_at hl 0 rfl) ?_
    refine fg_RX2_11 E hW rh0 dX2_add_12 (fun a5 m6 r7 => ?_)
    refine lv_aload_n hx hb dX2_add_15 rfl (lv_at hl 0 rfl) ?_
    refine fg_RX2_24 E hW rh0 dX2_add_16 (fun y8 m9 b10 => ?_)
    obtain rfl : y1 = y8 := (m2).symm.trans m9
    refine lv_aload_n hx hb dX2_add_19 rfl (lv_at hl 1 rfl) ?_
    refine r_astT E hW r7 (by decide) rfl (by decide) ru1 (ixN (N := 20) hW r7 (by decide) rfl (by decide) ⟨by omega, by omega⟩) dX2_add_20 (fun f11 H locs n12 g13 hW => ?_)
    have hF := FM.tr hF g13 rfl
    refine lv_aload_n hx hb dX2_add_21 rfl (lv_at hl 0 rfl) ?_
    refine lv_dup hx hb dX2_add_22 rfl ?_
    refine fg_RX2_24 E hW rh0 dX2_add_23 (fun y14 m15 b16 => ?_)
    obtain rfl : y1 = y14 := (((fm_I g13 rh0 rfl).trans m9)).symm.trans m15
    refine lv_iconst (v := 1) hx hb dX2_add_26 (by decide) ?_
    refine q_iadd (Y := 1) hx hb dX2_add_27 rfl rfl (by omega) (fun x17 h18 => ?_)
    refine fp_RX2_24 E hW rh0 (by omega) dX2_add_28 (fun f19 H locs e20 n21 g22 hW => ?_)
    have hF := FM.tr hF g22 rfl
    refine lv_aload_n hx hb dX2_add_31 rfl (lv_at hl 0 rfl) ?_
    refine fg_RX2_24 E hW rh0 dX2_add_32 (fun y23 m24 b25 => ?_)
    obtain rfl : x17 = y23 := (e20).symm.trans m24
    refine lv_iconst (v := 1) hx hb dX2_add_35 (by decide) ?_
    refine q_isub (Y := 1) hx hb dX2_add_36 rfl rfl (by omega) (fun x26 h27 => ?_)
    exact e_I E hW rfl ⟨⟨_, rfl, (by first | omega | trivial)⟩, hF⟩ dX2_add_37
  · refine lv_iconst (v := (-1)) hx hb dX2_add_9 (by decide) ?_
    exact e_I E hW rfl ⟨⟨_, rfl, (by have hk : ((-1) : Int32).toInt = -1 := rfl; first | decide | omega)⟩, hF⟩ dX2_add_10
def ms_X2_asksBanned : List (Nat × Nat) := []
def po_X2_asksBanned (kp : Nat → Nat) (L : List Nat) (f0 : Nat → va_E) (h0 : Nat) : Option Value → (Nat → va_E) → Prop := fun v f => (∃ r : Int32, v = some (.int r) ∧ ((0 : Int) ≤ r.toInt ∧ r.toInt ≤ 1)) ∧ FM kp L ms_X2_asksBanned f0 f
set_option maxHeartbeats 4000000 in
set_option maxRecDepth 100000 in
theorem c_X2_asksBanned (l : Launch) (G : va_G) (cI cJ cZ cD cR cT : ClassId) (kp : Nat → Nat) (L : List Nat) (f0 : Nat → va_E) (hTH : TH cI cJ cZ cD cR cT kp L f0) (sz : Nat) (h0 : Nat) (rh0 : RK kp L h0 2) : Met l yX2_asksBanned (Cond.code yX2_asksBanned cX2_asksBanned 3 (some .boolean) :: wTab) ({ frames := 1, cells := 0, slots := 0, locals := 40 }) (va_Pc [.ref h0] (PreW G (tys6 cI cJ cZ cD cR cT) (va_pl L f0) sz)) (QT (po_X2_asksBanned kp L f0 h0) G cI cJ cZ cD cR cT (va_A (va_pl L f0) sz) kp L) 0 0 (va_A (va_pl L f0) sz) := by
  refine metT (by decide) (Nat.le_of_ble_eq_true rfl) hTH ?_
  intro p e s m below meth c A ls E hW hl
  obtain ⟨hx, hb, -, hml, hown, hts, -, -, -⟩ := id E
  have hF : FM kp L ms_X2_asksBanned f0 f0 := FM.rf
  have hl : lv_has ls 3 [(0, .ref h0)] := hl
  refine lv_iconst (v := 0) hx hb dX2_asksBanned_0 (by decide) ?_
  refine lv_istore_n (lv' := [(1, .int 0), (0, .ref h0)]) hx hb dX2_asksBanned_1 rfl hl (by decide) rfl (fun ls hl => ?_)
  have L355 : ∀ (n : Nat), ∀ (y353 : Int32) (b354 : (0 : Int) ≤ y353.toInt ∧ y353.toInt ≤ 20) (hm : (21 : Int) - y353.toInt ≤ n) (H : Heap) (locs : List Loc) (ls : Array Slot), WS G cI cJ cZ cD cR cT A kp L f0 s H locs → FM kp L ms_X2_asksBanned f0 f0 → lv_has ls 3 [(1, .int y353), (0, .ref h0)] → W p l e ({ frames := 1, cells := 0, slots := 0, locals := 40 }) s m ([.ref h0] : List Value).toArray below meth c H locs 0 0 (MQ below (QT (po_X2_asksBanned kp L f0 h0) G cI cJ cZ cD cR cT A kp L) ([.ref h0] : List Value).toArray s 0 0 A) (F0 m 2 ls []) := by
    intro n
    induction n with
    | zero =>
      intro y353 b354 hm H locs ls hW hF hl
      have hz := i32_b y353
      exfalso; omega
    | succ n ih =>
      intro y353 b354 hm H locs ls hW hF hl
      have ih2 := ih
      refine lv_iload_n hx hb dX2_asksBanned_2 rfl (lv_at hl 0 rfl) ?_
      refine lv_aload_n hx hb dX2_asksBanned_3 rfl (lv_at hl 1 rfl) ?_
      refine fg_RX2_24 E hW rh0 dX2_asksBanned_4 (fun y356 m357 b358 => ?_)
      refine q_icmp_ge (tgt := 36) hx hb dX2_asksBanned_7 (by decide) rfl rfl (fun c359 => ?_) (fun c359 => ?_)
      · refine lv_iconst (v := 0) hx hb dX2_asksBanned_36 (by decide) ?_
        exact e_Z E hW rfl (by decide) ⟨⟨_, rfl, (by have hk : (0 : Int32).toInt = 0 := rfl; first | decide | omega)⟩, hF⟩ dX2_asksBanned_37
      · refine lv_aload_n hx hb dX2_asksBanned_10 rfl (lv_at hl 1 rfl) ?_
        refine fg_RX2_11 E hW rh0 dX2_asksBanned_11 (fun a360 m361 r362 => ?_)
        refine lv_iload_n hx hb dX2_asksBanned_14 rfl (lv_at hl 0 rfl) ?_
        refine gl_221 E hW r362 ⟨by omega, by omega⟩ dX2_asksBanned_15 (fun o363 m365 k364 => ?_)
        rcases o363 with _ | a366
        · have hl : lv_has ls 3 [(1, .int y353), (0, .ref h0)] := hl
          show W p l e ({ frames := 1, cells := 0, slots := 0, locals := 40 }) s m ([.ref h0] : List Value).toArray below meth c _ _ 0 0 (MQ below (QT (po_X2_asksBanned kp L f0 h0) G cI cJ cZ cD cR cT A kp L) ([.ref h0] : List Value).toArray s 0 0 A) (F0 m 16 ls [.null])
          refine lv_astore_nN (lv' := [(2, .null), (1, .int y353), (0, .ref h0)]) hx hb dX2_asksBanned_16 rfl hl (by decide) rfl (fun ls hl => ?_)
          refine lv_aload_nN hx hb dX2_asksBanned_17 rfl (lv_at hl 0 rfl) ?_
          refine lv_ifnullN (tgt := 30) hx hb dX2_asksBanned_18 (by decide) ?_
          refine q_iinc hx hb dX2_asksBanned_30 hl (k := 1) rfl rfl rfl (by omega) (by decide) (fun i368 ls h369 hl => ?_)
          have hl : lv_has ls 3 [(1, .int i368), (2, .null), (0, .ref h0)] := hl
          refine lv_goto (tgt := 2) hx hb dX2_asksBanned_33 (by decide) ?_
          exact ih2 i368 (by omega) (by omega) _ _ _ hW hF (lv_sub hl [0, 2] rfl)
        · have r367 : RK kp L a366 9 := k364 _ rfl
          have hl : lv_has ls 3 [(1, .int y353), (0, .ref h0)] := hl
          show W p l e ({ frames := 1, cells := 0, slots := 0, locals := 40 }) s m ([.ref h0] : List Value).toArray below meth c _ _ 0 0 (MQ below (QT (po_X2_asksBanned kp L f0 h0) G cI cJ cZ cD cR cT A kp L) ([.ref h0] : List Value).toArray s 0 0 A) (F0 m 16 ls [.ref a366])
          refine lv_astore_n (lv' := [(2, .ref a366), (1, .int y353), (0, .ref h0)]) hx hb dX2_asksBanned_16 rfl hl (by decide) rfl (fun ls hl => ?_)
          refine lv_aload_n hx hb dX2_asksBanned_17 rfl (lv_at hl 0 rfl) ?_
          refine lv_ifnull hx hb dX2_asksBanned_18 ?_
          refine lv_aload_n hx hb dX2_asksBanned_21 rfl (lv_at hl 0 rfl) ?_
          refine fg_RX2_53 E hW r367 dX2_asksBanned_22 (fun y370 m371 b372 => ?_)
          refine q_if_eq (tgt := 30) hx hb dX2_asksBanned_25 (by decide) rfl (fun c373 => ?_) (fun c373 => ?_)
          · refine q_iinc hx hb dX2_asksBanned_30 hl (k := 1) rfl rfl rfl (by omega) (by decide) (fun i374 ls h375 hl => ?_)
            have hl : lv_has ls 3 [(1, .int i374), (2, .ref a366), (0, .ref h0)] := hl
            refine lv_goto (tgt := 2) hx hb dX2_asksBanned_33 (by decide) ?_
            exact ih2 i374 (by omega) (by omega) _ _ _ hW hF (lv_sub hl [0, 2] rfl)
          · refine lv_iconst (v := 1) hx hb dX2_asksBanned_28 (by decide) ?_
            exact e_Z E hW rfl (by decide) ⟨⟨_, rfl, (by have hk : (1 : Int32).toInt = 1 := rfl; first | decide | omega)⟩, hF⟩ dX2_asksBanned_29
  have hk376 : (0 : Int32).toInt = 0 := rfl
  exact L355 21 0 (by decide) (by omega) _ _ _ hW hF (lv_sub hl [0, 1] rfl)
def ms_X2_copyFrom : List (Nat × Nat) := [(2, 0), (221, 0)]
def po_X2_copyFrom (kp : Nat → Nat) (L : List Nat) (f0 : Nat → va_E) (h0 : Nat) (u1 : Nat) : Option Value → (Nat → va_E) → Prop := fun v f => v = none ∧ FM kp L ms_X2_copyFrom f0 f
set_option maxHeartbeats 4000000 in
set_option maxRecDepth 100000 in
theorem c_X2_copyFrom (l : Launch) (G : va_G) (cI cJ cZ cD cR cT : ClassId) (kp : Nat → Nat) (L : List Nat) (f0 : Nat → va_E) (hTH : TH cI cJ cZ cD cR cT kp L f0) (sz : Nat) (h0 : Nat) (u1 : Nat) (rh0 : RK kp L h0 2) (ru1 : RK kp L u1 2) : Met l yX2_copyFrom (Cond.code yX2_copyFrom cX2_copyFrom 3 none :: wTab) ({ frames := 1, cells := 0, slots := 0, locals := 40 }) (va_Pc [.ref h0, .ref u1] (PreW G (tys6 cI cJ cZ cD cR cT) (va_pl L f0) sz)) (QT (po_X2_copyFrom kp L f0 h0 u1) G cI cJ cZ cD cR cT (va_A (va_pl L f0) sz) kp L) 0 0 (va_A (va_pl L f0) sz) := by
  refine metT (by decide) (Nat.le_of_ble_eq_true rfl) hTH ?_
  intro p e s m below meth c A ls E hW hl
  obtain ⟨hx, hb, -, hml, hown, hts, -, -, -⟩ := id E
  have hF : FM kp L ms_X2_copyFrom f0 f0 := FM.rf
  have hl : lv_has ls 3 [(0, .ref h0), (1, .ref u1)] := hl
  refine lv_aload_n hx hb dX2_copyFrom_0 rfl (lv_at hl 0 rfl) ?_
  refine lv_aload_n hx hb dX2_copyFrom_1 rfl (lv_at hl 1 rfl) ?_
  refine fg_RX2_24 E hW ru1 dX2_copyFrom_2 (fun y1 m2 b3 => ?_)
  refine fp_RX2_24 E hW rh0 (by omega) dX2_copyFrom_5 (fun f4 H locs e5 n6 g7 hW => ?_)
  have hF := FM.tr hF g7 rfl
  refine lv_iconst (v := 0) hx hb dX2_copyFrom_8 (by decide) ?_
  refine lv_istore_n (lv' := [(2, .int 0), (0, .ref h0), (1, .ref u1)]) hx hb dX2_copyFrom_9 rfl hl (by decide) rfl (fun ls hl => ?_)
  have L428 : ∀ (n : Nat), ∀ (f424 : Nat → va_E) (y426 : Int32) (m425 : oI (f424 h0) 0 = y1) (b427 : (0 : Int) ≤ y426.toInt ∧ y426.toInt ≤ 20) (hm : (21 : Int) - y426.toInt ≤ n) (H : Heap) (locs : List Loc) (ls : Array Slot), WS G cI cJ cZ cD cR cT A kp L f424 s H locs → FM kp L ms_X2_copyFrom f0 f424 → lv_has ls 3 [(2, .int y426), (0, .ref h0), (1, .ref u1)] → W p l e ({ frames := 1, cells := 0, slots := 0, locals := 40 }) s m ([.ref h0, .ref u1] : List Value).toArray below meth c H locs 0 0 (MQ below (QT (po_X2_copyFrom kp L f0 h0 u1) G cI cJ cZ cD cR cT A kp L) ([.ref h0, .ref u1] : List Value).toArray s 0 0 A) (F0 m 10 ls []) := by
    intro n
    induction n with
    | zero =>
      intro f424 y426 m425 b427 hm H locs ls hW hF hl
      have hz := i32_b y426
      exfalso; omega
    | succ n ih =>
      intro f424 y426 m425 b427 hm H locs ls hW hF hl
      have ih10 := ih
      refine lv_iload_n hx hb dX2_copyFrom_10 rfl (lv_at hl 0 rfl) ?_
      refine lv_bipush (v := 20) hx hb dX2_copyFrom_11 (by decide) ?_
      refine q_icmp_ge (Y := 20) (tgt := 34) hx hb dX2_copyFrom_13 (by decide) rfl rfl (fun c450 => ?_) (fun c450 => ?_)
      · exact e_V E hW rfl ⟨rfl, hF⟩ dX2_copyFrom_34
      · refine lv_aload_n hx hb dX2_copyFrom_16 rfl (lv_at hl 1 rfl) ?_
        refine fg_RX2_11 E hW rh0 dX2_copyFrom_17 (fun a451 m452 r453 => ?_)
        refine lv_iload_n hx hb dX2_copyFrom_20 rfl (lv_at hl 0 rfl) ?_
        refine lv_aload_n hx hb dX2_copyFrom_21 rfl (lv_at hl 2 rfl) ?_
        refine fg_RX2_11 E hW ru1 dX2_copyFrom_22 (fun a454 m455 r456 => ?_)
        refine lv_iload_n hx hb dX2_copyFrom_25 rfl (lv_at hl 0 rfl) ?_
        refine gl_221 E hW r456 ⟨by omega, by omega⟩ dX2_copyFrom_26 (fun o457 m459 k458 => ?_)
        rcases o457 with _ | a460
        · have hl : lv_has ls 3 [(2, .int y426), (0, .ref h0), (1, .ref u1)] := hl
          show W p l e ({ frames := 1, cells := 0, slots := 0, locals := 40 }) s m ([.ref h0, .ref u1] : List Value).toArray below meth c _ _ 0 0 (MQ below (QT (po_X2_copyFrom kp L f0 h0 u1) G cI cJ cZ cD cR cT A kp L) ([.ref h0, .ref u1] : List Value).toArray s 0 0 A) (F0 m 27 ls [.null, .int y426, .ref a451])
          refine r_astTN E hW r453 (by decide) rfl (by decide) (ixN (N := 20) hW r453 (by decide) rfl (by decide) ⟨by omega, by omega⟩) dX2_copyFrom_27 (fun f462 H locs n463 g464 hW => ?_)
          have hF := FM.tr hF g464 rfl
          refine q_iinc hx hb dX2_copyFrom_28 hl (k := 0) rfl rfl rfl (by omega) (by decide) (fun i465 ls h466 hl => ?_)
          have hl : lv_has ls 3 [(2, .int i465), (0, .ref h0), (1, .ref u1)] := hl
          refine lv_goto (tgt := 10) hx hb dX2_copyFrom_31 (by decide) ?_
          exact ih10 f462 i465 ((fm_I g464 rh0 rfl).trans m425) (by omega) (by omega) _ _ _ hW hF (lv_sub hl [0, 1, 2] rfl)
        · have r461 : RK kp L a460 9 := k458 _ rfl
          have hl : lv_has ls 3 [(2, .int y426), (0, .ref h0), (1, .ref u1)] := hl
          show W p l e ({ frames := 1, cells := 0, slots := 0, locals := 40 }) s m ([.ref h0, .ref u1] : List Value).toArray below meth c _ _ 0 0 (MQ below (QT (po_X2_copyFrom kp L f0 h0 u1) G cI cJ cZ cD cR cT A kp L) ([.ref h0, .ref u1] : List Value).toArray s 0 0 A) (F0 m 27 ls [.ref a460, .int y426, .ref a451])
          refine r_astT E hW r453 (by decide) rfl (by decide) r461 (ixN (N := 20) hW r453 (by decide) rfl (by decide) ⟨by omega, by omega⟩) dX2_copyFrom_27 (fun f467 H locs n468 g469 hW => ?_)
          have hF := FM.tr hF g469 rfl
          refine q_iinc hx hb dX2_copyFrom_28 hl (k := 0) rfl rfl rfl (by omega) (by decide) (fun i470 ls h471 hl => ?_)
          have hl : lv_has ls 3 [(2, .int i470), (0, .ref h0), (1, .ref u1)] := hl
          refine lv_goto (tgt := 10) hx hb dX2_copyFrom_31 (by decide) ?_
          exact ih10 f467 i470 ((fm_I g469 rh0 rfl).trans m425) (by omega) (by omega) _ _ _ hW hF (lv_sub hl [0, 1, 2] rfl)
  have hk472 : (0 : Int32).toInt = 0 := rfl
  exact L428 21 f4 0 e5 (by decide) (by omega) _ _ _ hW hF (lv_sub hl [0, 1, 2] rfl)
def ms_X2_has : List (Nat × Nat) := []
def po_X2_has (kp : Nat → Nat) (L : List Nat) (f0 : Nat → va_E) (h0 : Nat) (u1 : Int32) (u2 : Int32) : Option Value → (Nat → va_E) → Prop := fun v f => (∃ r : Int32, v = some (.int r) ∧ ((r.toInt = 1 ∧ 0 ≤ u1.toInt ∧ u1.toInt ≤ 19 ∧ 0 ≤ u2.toInt ∧ u2.toInt ≤ 11 ∧ r.toInt = 1) ∨ r.toInt = 0)) ∧ FM kp L ms_X2_has f0 f ∧ (v = some (.int 1) → ∀ T : Nat, aQ (f0 (oR (f0 h0) 1)) u1.toNatClampNeg = some T → u2.toInt < (oI (f0 T) 1).toInt)
set_option maxHeartbeats 4000000 in
set_option maxRecDepth 100000 in
theorem c_X2_has (l : Launch) (G : va_G) (cI cJ cZ cD cR cT : ClassId) (kp : Nat → Nat) (L : List Nat) (f0 : Nat → va_E) (hTH : TH cI cJ cZ cD cR cT kp L f0) (sz : Nat) (h0 : Nat) (u1 : Int32) (u2 : Int32) (rh0 : RK kp L h0 2) : Met l yX2_has (Cond.code yX2_has cX2_has 4 (some .boolean) :: wTab) ({ frames := 1, cells := 0, slots := 0, locals := 40 }) (va_Pc [.ref h0, .int u1, .int u2] (PreW G (tys6 cI cJ cZ cD cR cT) (va_pl L f0) sz)) (QT (po_X2_has kp L f0 h0 u1 u2) G cI cJ cZ cD cR cT (va_A (va_pl L f0) sz) kp L) 0 0 (va_A (va_pl L f0) sz) := by
  refine metT (by decide) (Nat.le_of_ble_eq_true rfl) hTH ?_
  intro p e s m below meth c A ls E hW hl
  obtain ⟨hx, hb, -, hml, hown, hts, -, -, -⟩ := id E
  have hF : FM kp L ms_X2_has f0 f0 := FM.rf
  have hl : lv_has ls 4 [(0, .ref h0), (1, .int u1), (2, .int u2)] := hl
  refine lv_iload_n hx hb dX2_has_0 rfl (lv_at hl 1 rfl) ?_
  refine q_if_lt (tgt := 12) hx hb dX2_has_1 (by decide) rfl (fun c1 => ?_) (fun c1 => ?_)
  · refine lv_iconst (v := 0) hx hb dX2_has_12 (by decide) ?_
    exact e_Z E hW rfl (by decide) ⟨⟨_, rfl, (by have hk : (0 : Int32).toInt = 0 := rfl; first | decide | omega)⟩, hF, not_one⟩ dX2_has_13
  · refine lv_iload_n hx hb dX2_has_4 rfl (lv_at hl 1 rfl) ?_
    refine lv_aload_n hx hb dX2_has_5 rfl (lv_at hl 0 rfl) ?_
    refine fg_RX2_24 E hW rh0 dX2_has_6 (fun y2 m3 b4 => ?_)
    refine q_icmp_lt (tgt := 14) hx hb dX2_has_9 (by decide) rfl rfl (fun c5 => ?_) (fun c5 => ?_)
    · refine lv_aload_n hx hb dX2_has_14 rfl (lv_at hl 0 rfl) ?_
      refine fg_RX2_11 E hW rh0 dX2_has_15 (fun a6 m7 r8 => ?_)
      refine lv_iload_n hx hb dX2_has_18 rfl (lv_at hl 1 rfl) ?_
      refine gl_221 E hW r8 ⟨by omega, by omega⟩ dX2_has_19 (fun o9 m11 k10 => ?_)
      rcases o9 with _ | a12
      · have hl : lv_has ls 4 [(0, .ref h0), (1, .int u1), (2, .int u2)] := hl
        show W p l e ({ frames := 1, cells := 0, slots := 0, locals := 40 }) s m ([.ref h0, .int u1, .int u2] : List Value).toArray below meth c _ _ 0 0 (MQ below (QT (po_X2_has kp L f0 h0 u1 u2) G cI cJ cZ cD cR cT A kp L) ([.ref h0, .int u1, .int u2] : List Value).toArray s 0 0 A) (F0 m 20 ls [.null])
        refine lv_astore_nN (lv' := [(3, .null), (0, .ref h0), (1, .int u1), (2, .int u2)]) hx hb dX2_has_20 rfl hl (by decide) rfl (fun ls hl => ?_)
        refine lv_aload_nN hx hb dX2_has_21 rfl (lv_at hl 0 rfl) ?_
        refine lv_ifnullN (tgt := 41) hx hb dX2_has_22 (by decide) ?_
        refine lv_iconst (v := 0) hx hb dX2_has_41 (by decide) ?_
        exact e_Z E hW rfl (by decide) ⟨⟨_, rfl, (by have hk : (0 : Int32).toInt = 0 := rfl; first | decide | omega)⟩, hF, not_one⟩ dX2_has_42
      · have r13 : RK kp L a12 9 := k10 _ rfl
        have hl : lv_has ls 4 [(0, .ref h0), (1, .int u1), (2, .int u2)] := hl
        show W p l e ({ frames := 1, cells := 0, slots := 0, locals := 40 }) s m ([.ref h0, .int u1, .int u2] : List Value).toArray below meth c _ _ 0 0 (MQ below (QT (po_X2_has kp L f0 h0 u1 u2) G cI cJ cZ cD cR cT A kp L) ([.ref h0, .int u1, .int u2] : List Value).toArray s 0 0 A) (F0 m 20 ls [.ref a12])
        refine lv_astore_n (lv' := [(3, .ref a12), (0, .ref h0), (1, .int u1), (2, .int u2)]) hx hb dX2_has_20 rfl hl (by decide) rfl (fun ls hl => ?_)
        refine lv_aload_n hx hb dX2_has_21 rfl (lv_at hl 0 rfl) ?_
        refine lv_ifnull hx hb dX2_has_22 ?_
        refine lv_iload_n hx hb dX2_has_25 rfl (lv_at hl 3 rfl) ?_
        refine q_if_lt (tgt := 41) hx hb dX2_has_26 (by decide) rfl (fun c14 => ?_) (fun c14 => ?_)
        · refine lv_iconst (v := 0) hx hb dX2_has_41 (by decide) ?_
          exact e_Z E hW rfl (by decide) ⟨⟨_, rfl, (by have hk : (0 : Int32).toInt = 0 := rfl; first | decide | omega)⟩, hF, not_one⟩ dX2_has_42
        · refine lv_iload_n hx hb dX2_has_29 rfl (lv_at hl 3 rfl) ?_
          refine lv_aload_n hx hb dX2_has_30 rfl (lv_at hl 0 rfl) ?_
          refine fg_RX2_28 E hW r13 dX2_has_31 (fun y15 m16 b17 => ?_)
          refine q_icmp_ge (tgt := 41) hx hb dX2_has_34 (by decide) rfl rfl (fun c18 => ?_) (fun c18 => ?_)
          · refine lv_iconst (v := 0) hx hb dX2_has_41 (by decide) ?_
            exact e_Z E hW rfl (by decide) ⟨⟨_, rfl, (by have hk : (0 : Int32).toInt = 0 := rfl; first | decide | omega)⟩, hF, not_one⟩ dX2_has_42
          · refine lv_iconst (v := 1) hx hb dX2_has_37 (by decide) ?_
            refine lv_goto (tgt := 42) hx hb dX2_has_38 (by decide) ?_
            exact e_Z E hW rfl (by decide) ⟨⟨_, rfl, (by have hk : (1 : Int32).toInt = 1 := rfl; first | decide | omega)⟩, hF, (fun _ T hT => by rw [m7, m11] at hT; cases hT; rw [m16]; omega)⟩ dX2_has_42
    · refine lv_iconst (v := 0) hx hb dX2_has_12 (by decide) ?_
      exact e_Z E hW rfl (by decide) ⟨⟨_, rfl, (by have hk : (0 : Int32).toInt = 0 := rfl; first | decide | omega)⟩, hF, not_one⟩ dX2_has_13
def ms_X2_isInForce : List (Nat × Nat) := []
def po_X2_isInForce (kp : Nat → Nat) (L : List Nat) (f0 : Nat → va_E) (h0 : Nat) (u1 : Int32) (u2 : Int32) : Option Value → (Nat → va_E) → Prop := fun v f => (∃ r : Int32, v = some (.int r) ∧ ((0 : Int) ≤ r.toInt ∧ r.toInt ≤ 1)) ∧ FM kp L ms_X2_isInForce f0 f
set_option maxHeartbeats 4000000 in
set_option maxRecDepth 100000 in
theorem c_X2_isInForce (l : Launch) (G : va_G) (cI cJ cZ cD cR cT : ClassId) (kp : Nat → Nat) (L : List Nat) (f0 : Nat → va_E) (hTH : TH cI cJ cZ cD cR cT kp L f0) (sz : Nat) (h0 : Nat) (u1 : Int32) (u2 : Int32) (rh0 : RK kp L h0 2) (pu1 : (0 : Int) ≤ u1.toInt ∧ u1.toInt ≤ 19) (pu2 : (0 : Int) ≤ u2.toInt ∧ u2.toInt ≤ 11) : Met l yX2_isInForce (Cond.code yX2_isInForce cX2_isInForce 3 (some .boolean) :: wTab) ({ frames := 1, cells := 0, slots := 0, locals := 40 }) (va_Pc [.ref h0, .int u1, .int u2] (PreW G (tys6 cI cJ cZ cD cR cT) (va_pl L f0) sz)) (QT (po_X2_isInForce kp L f0 h0 u1 u2) G cI cJ cZ cD cR cT (va_A (va_pl L f0) sz) kp L) 0 0 (va_A (va_pl L f0) sz) := by
  refine metT (by decide) (Nat.le_of_ble_eq_true rfl) hTH ?_
  intro p e s m below meth c A ls E hW hl
  obtain ⟨hx, hb, -, hml, hown, hts, -, -, -⟩ := id E
  have hF : FM kp L ms_X2_isInForce f0 f0 := FM.rf
  have hl : lv_has ls 3 [(0, .ref h0), (1, .int u1), (2, .int u2)] := hl
  refine lv_aload_n hx hb dX2_isInForce_0 rfl (lv_at hl 0 rfl) ?_
  refine fg_RX2_17 E hW rh0 dX2_isInForce_1 (fun a1 m2 r3 => ?_)
  refine lv_iload_n hx hb dX2_isInForce_4 rfl (lv_at hl 1 rfl) ?_
  refine gl_222 E hW r3 ⟨by omega, by omega⟩ dX2_isInForce_5 (fun y4 m5 => ?_)
  refine lv_iload_n hx hb dX2_isInForce_6 rfl (lv_at hl 2 rfl) ?_
  refine u_ishr hx hb dX2_isInForce_7 (fun x7 => ?_)
  refine lv_iconst (v := 1) hx hb dX2_isInForce_8 (by decide) ?_
  refine q_iand (M := 1) (k := 1) hx hb dX2_isInForce_9 (by decide) (by decide) (by decide) (fun x8 h9 => ?_)
  refine lv_iconst (v := 1) hx hb dX2_isInForce_10 (by decide) ?_
  have J12 : ∀ (y10 : Int32) (b11 : (0 : Int) ≤ y10.toInt ∧ y10.toInt ≤ 1) (H : Heap) (locs : List Loc) (ls : Array Slot), WS G cI cJ cZ cD cR cT A kp L f0 s H locs → FM kp L ms_X2_isInForce f0 f0 → lv_has ls 3 [(0, .ref h0), (1, .int u1), (2, .int u2)] → W p l e ({ frames := 1, cells := 0, slots := 0, locals := 40 }) s m ([.ref h0, .int u1, .int u2] : List Value).toArray below meth c H locs 0 0 (MQ below (QT (po_X2_isInForce kp L f0 h0 u1 u2) G cI cJ cZ cD cR cT A kp L) ([.ref h0, .int u1, .int u2] : List Value).toArray s 0 0 A) (F0 m 19 ls [.int y10]) := by
    intro y10 b11 H locs ls hW hF hl
    clear h9
    exact e_Z E hW rfl (by omega) ⟨⟨_, rfl, (by first | omega | trivial)⟩, hF⟩ dX2_isInForce_19
  refine q_icmp_ne (Y := 1) (tgt := 18) hx hb dX2_isInForce_11 (by decide) rfl rfl (fun c13 => ?_) (fun c13 => ?_)
  · refine lv_iconst (v := 0) hx hb dX2_isInForce_18 (by decide) ?_
    exact J12 0 (by decide) _ _ _ hW hF (lv_sub hl [0, 1, 2] rfl)
  · refine lv_iconst (v := 1) hx hb dX2_isInForce_14 (by decide) ?_
    refine lv_goto (tgt := 19) hx hb dX2_isInForce_15 (by decide) ?_
    exact J12 1 (by decide) _ _ _ hW hF (lv_sub hl [0, 1, 2] rfl)
def ms_X2_mark : List (Nat × Nat) := [(222, 0), (223, 0)]
def po_X2_mark (kp : Nat → Nat) (L : List Nat) (f0 : Nat → va_E) (h0 : Nat) (u1 : Int32) : Option Value → (Nat → va_E) → Prop := fun v f => v = none ∧ FM kp L ms_X2_mark f0 f
set_option maxHeartbeats 4000000 in
set_option maxRecDepth 100000 in
theorem c_X2_mark (l : Launch) (G : va_G) (cI cJ cZ cD cR cT : ClassId) (kp : Nat → Nat) (L : List Nat) (f0 : Nat → va_E) (hTH : TH cI cJ cZ cD cR cT kp L f0) (sz : Nat) (h0 : Nat) (u1 : Int32) (rh0 : RK kp L h0 2) (pu1 : (0 : Int) ≤ u1.toInt ∧ u1.toInt ≤ 399) : Met l yX2_mark (Cond.code yX2_mark cX2_mark 6 none :: wTab) ({ frames := 2, cells := 0, slots := 0, locals := 63 }) (va_Pc [.ref h0, .int u1] (PreW G (tys6 cI cJ cZ cD cR cT) (va_pl L f0) sz)) (QT (po_X2_mark kp L f0 h0 u1) G cI cJ cZ cD cR cT (va_A (va_pl L f0) sz) kp L) 0 0 (va_A (va_pl L f0) sz) := by
  refine metT (by decide) (Nat.le_of_ble_eq_true rfl) hTH ?_
  intro p e s m below meth c A ls E hW hl
  obtain ⟨hx, hb, -, hml, hown, hts, -, -, -⟩ := id E
  have hF : FM kp L ms_X2_mark f0 f0 := FM.rf
  have hl : lv_has ls 6 [(0, .ref h0), (1, .int u1)] := hl
  refine lv_aload_n hx hb dX2_mark_0 rfl (lv_at hl 0 rfl) ?_
  refine fg_RX2_21 E hW rh0 dX2_mark_1 (fun a1 m2 r3 => ?_)
  refine lv_iconst (v := 0) hx hb dX2_mark_4 (by decide) ?_
  refine t_callS (As := [.ref a1, .int 0]) (rest := []) E hW (c_fill l G cI cJ cZ cD cR cT kp L f0 hW.2.2.2 _ a1 0 223 r3 (by decide) rfl (by decide) (fun _ _ _ => trivial) (by decide)) wk_J7_fill_53178 tw_695 rfl ⟨Nat.le_of_ble_eq_true rfl, Nat.le_of_ble_eq_true rfl⟩ ⟨rfl, rfl⟩ hl.1 rfl (Nat.le_of_ble_eq_true rfl) dX2_mark_5 ⟨Nat.le_of_ble_eq_true rfl, Nat.le_of_ble_eq_true rfl⟩ (fun v7 f4 H locs q6 hW => ?_)
  obtain ⟨rfl, g5⟩ := q6
  have hF := FM.tr hF g5 rfl
  refine lv_aload_n hx hb dX2_mark_8 rfl (lv_at hl 0 rfl) ?_
  refine fg_RX2_24 E hW rh0 dX2_mark_9 (fun y8 m9 b10 => ?_)
  refine lv_iconst (v := 1) hx hb dX2_mark_12 (by decide) ?_
  refine q_isub (Y := 1) hx hb dX2_mark_13 rfl rfl (by omega) (fun x11 h12 => ?_)
  refine lv_istore_n (lv' := [(2, .int x11), (0, .ref h0), (1, .int u1)]) hx hb dX2_mark_14 rfl hl (by decide) rfl (fun ls hl => ?_)
  have L1592 : ∀ (n : Nat), ∀ (f1587 : Nat → va_E) (y1590 : Int32) (m1588 : oI (f1587 h0) 0 = y8) (m1589 : oR (f1587 h0) 3 = a1) (b1591 : (-1 : Int) ≤ y1590.toInt ∧ y1590.toInt ≤ 19) (hm : y1590.toInt - (-2 : Int) ≤ n) (H : Heap) (locs : List Loc) (ls : Array Slot), WS G cI cJ cZ cD cR cT A kp L f1587 s H locs → FM kp L ms_X2_mark f0 f1587 → lv_has ls 6 [(2, .int y1590), (0, .ref h0), (1, .int u1)] → W p l e ({ frames := 2, cells := 0, slots := 0, locals := 63 }) s m ([.ref h0, .int u1] : List Value).toArray below meth c H locs 0 0 (MQ below (QT (po_X2_mark kp L f0 h0 u1) G cI cJ cZ cD cR cT A kp L) ([.ref h0, .int u1] : List Value).toArray s 0 0 A) (F0 m 15 ls []) := by
    intro n
    induction n with
    | zero =>
      intro f1587 y1590 m1588 m1589 b1591 hm H locs ls hW hF hl
      have hz := i32_b y1590
      exfalso; omega
    | succ n ih =>
      intro f1587 y1590 m1588 m1589 b1591 hm H locs ls hW hF hl
      have ih15 := ih
      refine lv_iload_n hx hb dX2_mark_15 rfl (lv_at hl 0 rfl) ?_
      refine q_if_lt (tgt := 164) hx hb dX2_mark_16 (by decide) rfl (fun c3161 => ?_) (fun c3161 => ?_)
      · exact e_V E hW rfl ⟨rfl, hF⟩ dX2_mark_164
      · refine lv_aload_n hx hb dX2_mark_19 rfl (lv_at hl 1 rfl) ?_
        refine fg_RX2_11 E hW rh0 dX2_mark_20 (fun a3162 m3163 r3164 => ?_)
        refine lv_iload_n hx hb dX2_mark_23 rfl (lv_at hl 0 rfl) ?_
        refine gl_221 E hW r3164 ⟨by omega, by omega⟩ dX2_mark_24 (fun o3165 m3167 k3166 => ?_)
        rcases o3165 with _ | a3168
        · have hl : lv_has ls 6 [(2, .int y1590), (0, .ref h0), (1, .int u1)] := hl
          show W p l e ({ frames := 2, cells := 0, slots := 0, locals := 63 }) s m ([.ref h0, .int u1] : List Value).toArray below meth c _ _ 0 0 (MQ below (QT (po_X2_mark kp L f0 h0 u1) G cI cJ cZ cD cR cT A kp L) ([.ref h0, .int u1] : List Value).toArray s 0 0 A) (F0 m 25 ls [.null])
          refine lv_astore_nN (lv' := [(3, .null), (2, .int y1590), (0, .ref h0), (1, .int u1)]) hx hb dX2_mark_25 rfl hl (by decide) rfl (fun ls hl => ?_)
          refine lv_aload_nN hx hb dX2_mark_26 rfl (lv_at hl 0 rfl) ?_
          refine lv_ifnullN (tgt := 42) hx hb dX2_mark_27 (by decide) ?_
          refine lv_iconst (v := 0) hx hb dX2_mark_42 (by decide) ?_
          refine lv_istore (lv' := [(4, .int 0), (3, .null), (2, .int y1590), (0, .ref h0), (1, .int u1)]) hx hb dX2_mark_43 hl (by decide) rfl (fun ls hl => ?_)
          refine lv_aload_n hx hb dX2_mark_45 rfl (lv_at hl 3 rfl) ?_
          refine fg_RX2_17 E hW rh0 dX2_mark_46 (fun a3170 m3171 r3172 => ?_)
          refine lv_iload_n hx hb dX2_mark_49 rfl (lv_at hl 2 rfl) ?_
          refine lv_iload hx hb dX2_mark_50 (lv_at hl 0 rfl) ?_
          refine q_if_eq (X := 0) (tgt := 75) hx hb dX2_mark_52 (by decide) rfl (fun _ => ?_) (fun c => absurd c (by decide))
          refine lv_iconst (v := 0) hx hb dX2_mark_75 (by decide) ?_
          refine gs_222 E hW r3172 ⟨by omega, by omega⟩ dX2_mark_76 (fun f3173 H locs e3174 n3175 g3176 hW => ?_)
          have hF := FM.tr hF g3176 rfl
          refine lv_iconst (v := 0) hx hb dX2_mark_77 (by decide) ?_
          refine lv_istore (lv' := [(5, .int 0), (4, .int 0), (3, .null), (2, .int y1590), (0, .ref h0), (1, .int u1)]) hx hb dX2_mark_78 hl (by decide) rfl (fun ls hl => ?_)
          have L3191 : ∀ (n : Nat), ∀ (f3184 : Nat → va_E) (y3189 : Int32) (m3185 : oI (f3184 h0) 0 = y8) (m3186 : oR (f3184 h0) 1 = a3162) (m3187 : oR (f3184 h0) 2 = a3170) (m3188 : oR (f3184 h0) 3 = a1) (b3190 : (0 : Int) ≤ y3189.toInt ∧ y3189.toInt ≤ 0) (hm : (1 : Int) ≤ n) (H : Heap) (locs : List Loc) (ls : Array Slot), WS G cI cJ cZ cD cR cT A kp L f3184 s H locs → FM kp L ms_X2_mark f0 f3184 → lv_has ls 6 [(5, .int y3189), (4, .int 0), (3, .null), (2, .int y1590), (0, .ref h0), (1, .int u1)] → W p l e ({ frames := 2, cells := 0, slots := 0, locals := 63 }) s m ([.ref h0, .int u1] : List Value).toArray below meth c H locs 0 0 (MQ below (QT (po_X2_mark kp L f0 h0 u1) G cI cJ cZ cD cR cT A kp L) ([.ref h0, .int u1] : List Value).toArray s 0 0 A) (F0 m 80 ls []) := by
            intro n
            induction n with
            | zero =>
              intro f3184 y3189 m3185 m3186 m3187 m3188 b3190 hm H locs ls hW hF hl
              exfalso; omega
            | succ n ih =>
              intro f3184 y3189 m3185 m3186 m3187 m3188 b3190 hm H locs ls hW hF hl
              have ih80 := ih
              refine lv_iload hx hb dX2_mark_80 (lv_at hl 1 rfl) ?_
              refine q_if_eq (X := 0) (tgt := 158) hx hb dX2_mark_82 (by decide) rfl (fun _ => ?_) (fun c => absurd c (by decide))
              refine q_iinc hx hb dX2_mark_158 hl (k := 3) rfl rfl rfl (by omega) (by decide) (fun i3192 ls h3193 hl => ?_)
              have hl : lv_has ls 6 [(2, .int i3192), (5, .int y3189), (4, .int 0), (3, .null), (0, .ref h0), (1, .int u1)] := hl
              refine lv_goto (tgt := 15) hx hb dX2_mark_161 (by decide) ?_
              exact ih15 f3184 i3192 m3185 m3188 (by omega) (by omega) _ _ _ hW hF (lv_sub hl [0, 4, 5] rfl)
          have hk3194 : (0 : Int32).toInt = 0 := rfl
          exact L3191 1 f3173 0 ((fm_I g3176 rh0 rfl).trans m1588) ((fm_R g3176 rh0 rfl).trans m3163) ((fm_R g3176 rh0 rfl).trans m3171) ((fm_R g3176 rh0 rfl).trans m1589) (by decide) (by omega) _ _ _ hW hF (lv_sub hl [0, 1, 2, 3, 4, 5] rfl)
        · have r3169 : RK kp L a3168 9 := k3166 _ rfl
          have hl : lv_has ls 6 [(2, .int y1590), (0, .ref h0), (1, .int u1)] := hl
          show W p l e ({ frames := 2, cells := 0, slots := 0, locals := 63 }) s m ([.ref h0, .int u1] : List Value).toArray below meth c _ _ 0 0 (MQ below (QT (po_X2_mark kp L f0 h0 u1) G cI cJ cZ cD cR cT A kp L) ([.ref h0, .int u1] : List Value).toArray s 0 0 A) (F0 m 25 ls [.ref a3168])
          refine lv_astore_n (lv' := [(3, .ref a3168), (2, .int y1590), (0, .ref h0), (1, .int u1)]) hx hb dX2_mark_25 rfl hl (by decide) rfl (fun ls hl => ?_)
          refine lv_aload_n hx hb dX2_mark_26 rfl (lv_at hl 0 rfl) ?_
          refine lv_ifnull hx hb dX2_mark_27 ?_
          refine lv_aload_n hx hb dX2_mark_30 rfl (lv_at hl 0 rfl) ?_
          refine fg_RX2_37 E hW r3169 dX2_mark_31 (fun y3195 m3196 => ?_)
          refine lv_iload_n hx hb dX2_mark_34 rfl (lv_at hl 3 rfl) ?_
          have J3200 : ∀ (y3198 : Int32) (b3199 : (0 : Int) ≤ y3198.toInt ∧ y3198.toInt ≤ 1) (H : Heap) (locs : List Loc) (ls : Array Slot), WS G cI cJ cZ cD cR cT A kp L f1587 s H locs → FM kp L ms_X2_mark f0 f1587 → lv_has ls 6 [(3, .ref a3168), (2, .int y1590), (0, .ref h0), (1, .int u1)] → W p l e ({ frames := 2, cells := 0, slots := 0, locals := 63 }) s m ([.ref h0, .int u1] : List Value).toArray below meth c H locs 0 0 (MQ below (QT (po_X2_mark kp L f0 h0 u1) G cI cJ cZ cD cR cT A kp L) ([.ref h0, .int u1] : List Value).toArray s 0 0 A) (F0 m 43 ls [.int y3198]) := by
            intro y3198 b3199 H locs ls hW hF hl
            refine lv_istore (lv' := [(4, .int y3198), (3, .ref a3168), (2, .int y1590), (0, .ref h0), (1, .int u1)]) hx hb dX2_mark_43 hl (by decide) rfl (fun ls hl => ?_)
            refine lv_aload_n hx hb dX2_mark_45 rfl (lv_at hl 3 rfl) ?_
            refine fg_RX2_17 E hW rh0 dX2_mark_46 (fun a3201 m3202 r3203 => ?_)
            refine lv_iload_n hx hb dX2_mark_49 rfl (lv_at hl 2 rfl) ?_
            refine lv_iload hx hb dX2_mark_50 (lv_at hl 0 rfl) ?_
            have J3218 : ∀ (y3217 : Int32) (H : Heap) (locs : List Loc) (ls : Array Slot), WS G cI cJ cZ cD cR cT A kp L f1587 s H locs → FM kp L ms_X2_mark f0 f1587 → lv_has ls 6 [(4, .int y3198), (3, .ref a3168), (2, .int y1590), (0, .ref h0), (1, .int u1)] → W p l e ({ frames := 2, cells := 0, slots := 0, locals := 63 }) s m ([.ref h0, .int u1] : List Value).toArray below meth c H locs 0 0 (MQ below (QT (po_X2_mark kp L f0 h0 u1) G cI cJ cZ cD cR cT A kp L) ([.ref h0, .int u1] : List Value).toArray s 0 0 A) (F0 m 76 ls [.int y3217, .int y1590, .ref a3201]) := by
              intro y3217 H locs ls hW hF hl
              refine gs_222 E hW r3203 ⟨by omega, by omega⟩ dX2_mark_76 (fun f3219 H locs e3220 n3221 g3222 hW => ?_)
              have hF := FM.tr hF g3222 rfl
              refine lv_iconst (v := 0) hx hb dX2_mark_77 (by decide) ?_
              refine lv_istore (lv' := [(5, .int 0), (4, .int y3198), (3, .ref a3168), (2, .int y1590), (0, .ref h0), (1, .int u1)]) hx hb dX2_mark_78 hl (by decide) rfl (fun ls hl => ?_)
              have L4515 : ∀ (n : Nat), ∀ (f4507 : Nat → va_E) (y4513 : Int32) (m4508 : oI (f4507 a3168) 0 = y3195) (m4509 : oI (f4507 h0) 0 = y8) (m4510 : oR (f4507 h0) 1 = a3162) (m4511 : oR (f4507 h0) 2 = a3201) (m4512 : oR (f4507 h0) 3 = a1) (b4514 : (0 : Int) ≤ y4513.toInt ∧ y4513.toInt ≤ 12) (hm : (13 : Int) - y4513.toInt ≤ n) (H : Heap) (locs : List Loc) (ls : Array Slot), WS G cI cJ cZ cD cR cT A kp L f4507 s H locs → FM kp L ms_X2_mark f0 f4507 → lv_has ls 6 [(5, .int y4513), (4, .int y3198), (3, .ref a3168), (2, .int y1590), (0, .ref h0), (1, .int u1)] → W p l e ({ frames := 2, cells := 0, slots := 0, locals := 63 }) s m ([.ref h0, .int u1] : List Value).toArray below meth c H locs 0 0 (MQ below (QT (po_X2_mark kp L f0 h0 u1) G cI cJ cZ cD cR cT A kp L) ([.ref h0, .int u1] : List Value).toArray s 0 0 A) (F0 m 80 ls []) := by
                intro n
                induction n with
                | zero =>
                  intro f4507 y4513 m4508 m4509 m4510 m4511 m4512 b4514 hm H locs ls hW hF hl
                  have hz := i32_b y4513
                  exfalso; omega
                | succ n ih =>
                  intro f4507 y4513 m4508 m4509 m4510 m4511 m4512 b4514 hm H locs ls hW hF hl
                  have ih80 := ih
                  refine lv_iload hx hb dX2_mark_80 (lv_at hl 1 rfl) ?_
                  have J4614 : ∀ (H : Heap) (locs : List Loc) (ls : Array Slot), WS G cI cJ cZ cD cR cT A kp L f4507 s H locs → FM kp L ms_X2_mark f0 f4507 → lv_has ls 6 [(5, .int y4513), (4, .int y3198), (3, .ref a3168), (2, .int y1590), (0, .ref h0), (1, .int u1)] → W p l e ({ frames := 2, cells := 0, slots := 0, locals := 63 }) s m ([.ref h0, .int u1] : List Value).toArray below meth c H locs 0 0 (MQ below (QT (po_X2_mark kp L f0 h0 u1) G cI cJ cZ cD cR cT A kp L) ([.ref h0, .int u1] : List Value).toArray s 0 0 A) (F0 m 158 ls []) := by
                    intro  H locs ls hW hF hl
                    refine q_iinc hx hb dX2_mark_158 hl (k := 3) rfl rfl rfl (by omega) (by decide) (fun i4615 ls h4616 hl => ?_)
                    have hl : lv_has ls 6 [(2, .int i4615), (5, .int y4513), (4, .int y3198), (3, .ref a3168), (0, .ref h0), (1, .int u1)] := hl
                    refine lv_goto (tgt := 15) hx hb dX2_mark_161 (by decide) ?_
                    exact ih15 f4507 i4615 m4509 m4512 (by omega) (by omega) _ _ _ hW hF (lv_sub hl [0, 4, 5] rfl)
                  refine q_if_eq (tgt := 158) hx hb dX2_mark_82 (by decide) rfl (fun c4617 => ?_) (fun c4617 => ?_)
                  · exact J4614   _ _ _ hW hF (lv_sub hl [0, 1, 2, 3, 4, 5] rfl)
                  · refine lv_iload hx hb dX2_mark_85 (lv_at hl 0 rfl) ?_
                    refine lv_aload_n hx hb dX2_mark_87 rfl (lv_at hl 2 rfl) ?_
                    refine fg_RX2_28 E hW r3169 dX2_mark_88 (fun y4618 m4619 b4620 => ?_)
                    refine q_icmp_ge (tgt := 158) hx hb dX2_mark_91 (by decide) rfl rfl (fun c4621 => ?_) (fun c4621 => ?_)
                    · exact J4614   _ _ _ hW hF (lv_sub hl [0, 1, 2, 3, 4, 5] rfl)
                    · refine lv_aload_n hx hb dX2_mark_94 rfl (lv_at hl 2 rfl) ?_
                      refine fg_RX2_40 E hW r3169 dX2_mark_95 (fun a4622 m4623 r4624 => ?_)
                      refine lv_iload hx hb dX2_mark_98 (lv_at hl 0 rfl) ?_
                      refine gl_643 E hW r4624 ⟨by omega, by omega⟩ dX2_mark_100 (fun y4625 m4626 => ?_)
                      refine lv_sipush (v := 256) hx hb dX2_mark_101 (by decide) ?_
                      have J4674 : ∀ (f4666 : Nat → va_E) (m4667 : oI (f4666 a3168) 0 = y3195) (m4668 : oI (f4666 a3168) 1 = y4618) (m4669 : oR (f4666 a3168) 3 = a4622) (m4670 : oI (f4666 h0) 0 = y8) (m4671 : oR (f4666 h0) 1 = a3162) (m4672 : oR (f4666 h0) 2 = a3201) (m4673 : oR (f4666 h0) 3 = a1) (H : Heap) (locs : List Loc) (ls : Array Slot), WS G cI cJ cZ cD cR cT A kp L f4666 s H locs → FM kp L ms_X2_mark f0 f4666 → lv_has ls 6 [(5, .int y4513), (4, .int y3198), (3, .ref a3168), (2, .int y1590), (0, .ref h0), (1, .int u1)] → W p l e ({ frames := 2, cells := 0, slots := 0, locals := 63 }) s m ([.ref h0, .int u1] : List Value).toArray below meth c H locs 0 0 (MQ below (QT (po_X2_mark kp L f0 h0 u1) G cI cJ cZ cD cR cT A kp L) ([.ref h0, .int u1] : List Value).toArray s 0 0 A) (F0 m 152 ls []) := by
                        intro f4666 m4667 m4668 m4669 m4670 m4671 m4672 m4673 H locs ls hW hF hl
                        refine q_iinc hx hb dX2_mark_152 hl (k := 0) rfl rfl rfl (by omega) (by decide) (fun i4675 ls h4676 hl => ?_)
                        have hl : lv_has ls 6 [(5, .int i4675), (4, .int y3198), (3, .ref a3168), (2, .int y1590), (0, .ref h0), (1, .int u1)] := hl
                        refine lv_goto (tgt := 80) hx hb dX2_mark_155 (by decide) ?_
                        exact ih80 f4666 i4675 m4667 m4670 m4671 m4672 m4673 (by omega) (by omega) _ _ _ hW hF (lv_sub hl [0, 1, 2, 3, 4, 5] rfl)
                      refine q_icmp_ne (Y := 256) (tgt := 152) hx hb dX2_mark_104 (by decide) rfl rfl (fun c4677 => ?_) (fun c4677 => ?_)
                      · exact J4674 f4507 m4508 m4619 m4623 m4509 m4510 m4511 m4512 _ _ _ hW hF (lv_sub hl [0, 1, 2, 3, 4, 5] rfl)
                      · refine lv_aload_n hx hb dX2_mark_107 rfl (lv_at hl 4 rfl) ?_
                        refine lv_iload_n hx hb dX2_mark_108 rfl (lv_at hl 3 rfl) ?_
                        refine lv_iload hx hb dX2_mark_109 (lv_at hl 0 rfl) ?_
                        refine t_callV (As := [.int y1590, .int y4513]) (rest := []) E hW (c_X2_isInForce l G cI cJ cZ cD cR cT kp L f4507 hW.2.2.2 _ h0 y1590 y4513 rh0 (by omega) (by omega)) rh0 (by decide) rfl wk_X2_isInForce tw_696 rfl ⟨Nat.le_of_ble_eq_true rfl, Nat.le_of_ble_eq_true rfl⟩ ⟨rfl, rfl⟩ hl.1 rfl (Nat.le_of_ble_eq_true rfl) dX2_mark_111 ⟨Nat.le_of_ble_eq_true rfl, Nat.le_of_ble_eq_true rfl⟩ (fun v4678 f4679 H locs q4680 hW => ?_)
                        obtain ⟨⟨x4682, rfl, p4683⟩, g4681⟩ := q4680
                        have hF := FM.tr hF g4681 rfl
                        refine q_if_eq (tgt := 152) hx hb dX2_mark_114 (by decide) rfl (fun c4684 => ?_) (fun c4684 => ?_)
                        · exact J4674 f4679 ((fm_I g4681 r3169 rfl).trans m4508) ((fm_I g4681 r3169 rfl).trans m4619) ((fm_R g4681 r3169 rfl).trans m4623) ((fm_I g4681 rh0 rfl).trans m4509) ((fm_R g4681 rh0 rfl).trans m4510) ((fm_R g4681 rh0 rfl).trans m4511) ((fm_R g4681 rh0 rfl).trans m4512) _ _ _ hW hF (lv_sub hl [0, 1, 2, 3, 4, 5] rfl)
                        · refine lv_aload_n hx hb dX2_mark_117 rfl (lv_at hl 2 rfl) ?_
                          refine fg_RX2_47 E hW r3169 dX2_mark_118 (fun a4685 m4686 r4687 => ?_)
                          refine lv_iload hx hb dX2_mark_121 (lv_at hl 0 rfl) ?_
                          refine gl_644 E hW r4687 ⟨by omega, by omega⟩ dX2_mark_123 (fun y4688 m4689 b4690 => ?_)
                          refine lv_iload_n hx hb dX2_mark_124 rfl (lv_at hl 3 rfl) ?_
                          refine q_icmp_ge (tgt := 152) hx hb dX2_mark_125 (by decide) rfl rfl (fun c4691 => ?_) (fun c4691 => ?_)
                          · exact J4674 f4679 ((fm_I g4681 r3169 rfl).trans m4508) ((fm_I g4681 r3169 rfl).trans m4619) ((fm_R g4681 r3169 rfl).trans m4623) ((fm_I g4681 rh0 rfl).trans m4509) ((fm_R g4681 rh0 rfl).trans m4510) ((fm_R g4681 rh0 rfl).trans m4511) ((fm_R g4681 rh0 rfl).trans m4512) _ _ _ hW hF (lv_sub hl [0, 1, 2, 3, 4, 5] rfl)
                          · refine lv_aload_n hx hb dX2_mark_128 rfl (lv_at hl 4 rfl) ?_
                            refine fg_RX2_21 E hW rh0 dX2_mark_129 (fun a4692 m4693 r4694 => ?_)
                            obtain rfl : a1 = a4692 := (((fm_R g4681 rh0 rfl).trans m4512)).symm.trans m4693
                            refine lv_aload_n hx hb dX2_mark_132 rfl (lv_at hl 2 rfl) ?_
                            refine fg_RX2_47 E hW r3169 dX2_mark_133 (fun a4695 m4696 r4697 => ?_)
                            obtain rfl : a4685 = a4695 := (m4686).symm.trans m4696
                            refine lv_iload hx hb dX2_mark_136 (lv_at hl 0 rfl) ?_
                            refine gl_644 E hW r4687 ⟨by omega, by omega⟩ dX2_mark_138 (fun y4698 m4699 b4700 => ?_)
                            obtain rfl : y4688 = y4698 := (m4689).symm.trans m4699
                            refine lv_dup2_11 hx hb dX2_mark_139 rfl rfl ?_
                            refine gl_223 E hW r3 ⟨by omega, by omega⟩ dX2_mark_140 (fun y4701 m4702 => ?_)
                            refine lv_iconst (v := 1) hx hb dX2_mark_141 (by decide) ?_
                            refine lv_aload_n hx hb dX2_mark_142 rfl (lv_at hl 2 rfl) ?_
                            refine fg_RX2_50 E hW r3169 dX2_mark_143 (fun a4704 m4705 r4706 => ?_)
                            refine lv_iload hx hb dX2_mark_146 (lv_at hl 0 rfl) ?_
                            refine gl_645 E hW r4706 ⟨by omega, by omega⟩ dX2_mark_148 (fun y4707 m4708 => ?_)
                            refine u_ishl hx hb dX2_mark_149 (fun x4710 => ?_)
                            refine u_ior hx hb dX2_mark_150 (fun x4711 => ?_)
                            refine gs_223 E hW r3 ⟨by omega, by omega⟩ dX2_mark_151 (fun f4712 H locs e4713 n4714 g4715 hW => ?_)
                            have hF := FM.tr hF g4715 rfl
                            exact J4674 f4712 ((fm_I g4715 r3169 rfl).trans ((fm_I g4681 r3169 rfl).trans m4508)) ((fm_I g4715 r3169 rfl).trans ((fm_I g4681 r3169 rfl).trans m4619)) ((fm_R g4715 r3169 rfl).trans ((fm_R g4681 r3169 rfl).trans m4623)) ((fm_I g4715 rh0 rfl).trans ((fm_I g4681 rh0 rfl).trans m4509)) ((fm_R g4715 rh0 rfl).trans ((fm_R g4681 rh0 rfl).trans m4510)) ((fm_R g4715 rh0 rfl).trans ((fm_R g4681 rh0 rfl).trans m4511)) ((fm_R g4715 rh0 rfl).trans m4693) _ _ _ hW hF (lv_sub hl [0, 1, 2, 3, 4, 5] rfl)
              have hk4716 : (0 : Int32).toInt = 0 := rfl
              exact L4515 13 f3219 0 ((fm_I g3222 r3169 rfl).trans m3196) ((fm_I g3222 rh0 rfl).trans m1588) ((fm_R g3222 rh0 rfl).trans m3163) ((fm_R g3222 rh0 rfl).trans m3202) ((fm_R g3222 rh0 rfl).trans m1589) (by decide) (by omega) _ _ _ hW hF (lv_sub hl [0, 1, 2, 3, 4, 5] rfl)
            refine q_if_eq (tgt := 75) hx hb dX2_mark_52 (by decide) rfl (fun c4717 => ?_) (fun c4717 => ?_)
            · refine lv_iconst (v := 0) hx hb dX2_mark_75 (by decide) ?_
              exact J3218 0  _ _ _ hW hF (lv_sub hl [0, 1, 2, 3, 4] rfl)
            · refine lv_iconst (v := 1) hx hb dX2_mark_55 (by decide) ?_
              refine lv_aload_n hx hb dX2_mark_56 rfl (lv_at hl 1 rfl) ?_
              refine fg_RX2_28 E hW r3169 dX2_mark_57 (fun y4718 m4719 b4720 => ?_)
              refine u_ishl hx hb dX2_mark_60 (fun x4721 => ?_)
              refine lv_iconst (v := 1) hx hb dX2_mark_61 (by decide) ?_
              refine u_isub hx hb dX2_mark_62 (fun x4722 => ?_)
              refine lv_aload_n hx hb dX2_mark_63 rfl (lv_at hl 3 rfl) ?_
              refine fg_RX2_21 E hW rh0 dX2_mark_64 (fun a4723 m4724 r4725 => ?_)
              obtain rfl : a1 = a4723 := (m1589).symm.trans m4724
              refine lv_iload_n hx hb dX2_mark_67 rfl (lv_at hl 2 rfl) ?_
              refine gl_223 E hW r3 ⟨by omega, by omega⟩ dX2_mark_68 (fun y4726 m4727 => ?_)
              refine lv_iconst (v := (-1)) hx hb dX2_mark_69 (by decide) ?_
              refine u_ixor hx hb dX2_mark_70 (fun x4729 => ?_)
              refine u_iand hx hb dX2_mark_71 (fun x4730 => ?_)
              refine lv_goto (tgt := 76) hx hb dX2_mark_72 (by decide) ?_
              exact J3218 x4730  _ _ _ hW hF (lv_sub hl [0, 1, 2, 3, 4] rfl)
          refine q_icmp_gt (tgt := 42) hx hb dX2_mark_35 (by decide) rfl rfl (fun c4731 => ?_) (fun c4731 => ?_)
          · refine lv_iconst (v := 0) hx hb dX2_mark_42 (by decide) ?_
            exact J3200 0 (by decide) _ _ _ hW hF (lv_sub hl [0, 1, 2, 3] rfl)
          · refine lv_iconst (v := 1) hx hb dX2_mark_38 (by decide) ?_
            refine lv_goto (tgt := 43) hx hb dX2_mark_39 (by decide) ?_
            exact J3200 1 (by decide) _ _ _ hW hF (lv_sub hl [0, 1, 2, 3] rfl)
  exact L1592 21 f4 x11 m9 ((fm_R g5 rh0 rfl).trans m2) (by omega) (by omega) _ _ _ hW hF (lv_sub hl [0, 1, 2] rfl)
def ms_X2_weeksOf : List (Nat × Nat) := []
def po_X2_weeksOf (kp : Nat → Nat) (L : List Nat) (f0 : Nat → va_E) (h0 : Nat) (u1 : Int32) : Option Value → (Nat → va_E) → Prop := fun v f => (∃ r : Int32, v = some (.int r) ∧ (True)) ∧ FM kp L ms_X2_weeksOf f0 f
set_option maxHeartbeats 4000000 in
set_option maxRecDepth 100000 in
theorem c_X2_weeksOf (l : Launch) (G : va_G) (cI cJ cZ cD cR cT : ClassId) (kp : Nat → Nat) (L : List Nat) (f0 : Nat → va_E) (hTH : TH cI cJ cZ cD cR cT kp L f0) (sz : Nat) (h0 : Nat) (u1 : Int32) (rh0 : RK kp L h0 2) (pu1 : u1.toInt ≤ 3) : Met l yX2_weeksOf (Cond.code yX2_weeksOf cX2_weeksOf 6 (some .int) :: wTab) ({ frames := 2, cells := 0, slots := 0, locals := 62 }) (va_Pc [.ref h0, .int u1] (PreW G (tys6 cI cJ cZ cD cR cT) (va_pl L f0) sz)) (QT (po_X2_weeksOf kp L f0 h0 u1) G cI cJ cZ cD cR cT (va_A (va_pl L f0) sz) kp L) 0 0 (va_A (va_pl L f0) sz) := by
  refine metT (by decide) (Nat.le_of_ble_eq_true rfl) hTH ?_
  intro p e s m below meth c A ls E hW hl
  obtain ⟨hx, hb, -, hml, hown, hts, -, -, -⟩ := id E
  have hF : FM kp L ms_X2_weeksOf f0 f0 := FM.rf
  have hl : lv_has ls 6 [(0, .ref h0), (1, .int u1)] := hl
  refine lv_iconst (v := 4) hx hb dX2_weeksOf_0 (by decide) ?_
  refine lv_istore_n (lv' := [(2, .int 4), (0, .ref h0), (1, .int u1)]) hx hb dX2_weeksOf_1 rfl hl (by decide) rfl (fun ls hl => ?_)
  refine lv_iconst (v := 0) hx hb dX2_weeksOf_2 (by decide) ?_
  refine lv_istore_n (lv' := [(3, .int 0), (2, .int 4), (0, .ref h0), (1, .int u1)]) hx hb dX2_weeksOf_3 rfl hl (by decide) rfl (fun ls hl => ?_)
  have L17099 : ∀ (n : Nat), ∀ (f17095 : Nat → va_E) (y17096 : Int32) (y17098 : Int32) (b17097 : (0 : Int) ≤ y17096.toInt ∧ y17096.toInt ≤ 20) (hm : (21 : Int) - y17096.toInt ≤ n) (H : Heap) (locs : List Loc) (ls : Array Slot), WS G cI cJ cZ cD cR cT A kp L f17095 s H locs → FM kp L ms_X2_weeksOf f0 f17095 → lv_has ls 6 [(3, .int y17096), (2, .int y17098), (0, .ref h0), (1, .int u1)] → W p l e ({ frames := 2, cells := 0, slots := 0, locals := 62 }) s m ([.ref h0, .int u1] : List Value).toArray below meth c H locs 0 0 (MQ below (QT (po_X2_weeksOf kp L f0 h0 u1) G cI cJ cZ cD cR cT A kp L) ([.ref h0, .int u1] : List Value).toArray s 0 0 A) (F0 m 4 ls []) := by
    intro n
    induction n with
    | zero =>
      intro f17095 y17096 y17098 b17097 hm H locs ls hW hF hl
      have hz := i32_b y17096
      exfalso; omega
    | succ n ih =>
      intro f17095 y17096 y17098 b17097 hm H locs ls hW hF hl
      have ih4 := ih
      refine lv_iload_n hx hb dX2_weeksOf_4 rfl (lv_at hl 0 rfl) ?_
      refine lv_aload_n hx hb dX2_weeksOf_5 rfl (lv_at hl 2 rfl) ?_
      refine fg_RX2_24 E hW rh0 dX2_weeksOf_6 (fun y17100 m17101 b17102 => ?_)
      refine q_icmp_ge (tgt := 95) hx hb dX2_weeksOf_9 (by decide) rfl rfl (fun c18100 => ?_) (fun c18100 => ?_)
      · refine lv_iload_n hx hb dX2_weeksOf_95 rfl (lv_at hl 1 rfl) ?_
        exact e_I E hW rfl ⟨⟨_, rfl, trivial⟩, hF⟩ dX2_weeksOf_96
      · refine lv_aload_n hx hb dX2_weeksOf_12 rfl (lv_at hl 2 rfl) ?_
        refine fg_RX2_11 E hW rh0 dX2_weeksOf_13 (fun a18101 m18102 r18103 => ?_)
        refine lv_iload_n hx hb dX2_weeksOf_16 rfl (lv_at hl 0 rfl) ?_
        refine gl_221 E hW r18103 ⟨by omega, by omega⟩ dX2_weeksOf_17 (fun o18104 m18106 k18105 => ?_)
        rcases o18104 with _ | a18107
        · have hl : lv_has ls 6 [(3, .int y17096), (2, .int y17098), (0, .ref h0), (1, .int u1)] := hl
          show W p l e ({ frames := 2, cells := 0, slots := 0, locals := 62 }) s m ([.ref h0, .int u1] : List Value).toArray below meth c _ _ 0 0 (MQ below (QT (po_X2_weeksOf kp L f0 h0 u1) G cI cJ cZ cD cR cT A kp L) ([.ref h0, .int u1] : List Value).toArray s 0 0 A) (F0 m 18 ls [.null])
          refine lv_astoreN (lv' := [(4, .null), (3, .int y17096), (2, .int y17098), (0, .ref h0), (1, .int u1)]) hx hb dX2_weeksOf_18 hl (by decide) rfl (fun ls hl => ?_)
          refine lv_iconst (v := 0) hx hb dX2_weeksOf_20 (by decide) ?_
          refine lv_istore (lv' := [(5, .int 0), (4, .null), (3, .int y17096), (2, .int y17098), (0, .ref h0), (1, .int u1)]) hx hb dX2_weeksOf_21 hl (by decide) rfl (fun ls hl => ?_)
          have L18115 : ∀ (n : Nat), ∀ (y18112 : Int32) (y18114 : Int32) (b18113 : (0 : Int) ≤ y18112.toInt ∧ y18112.toInt ≤ 0) (hm : (1 : Int) ≤ n) (H : Heap) (locs : List Loc) (ls : Array Slot), WS G cI cJ cZ cD cR cT A kp L f17095 s H locs → FM kp L ms_X2_weeksOf f0 f17095 → lv_has ls 6 [(5, .int y18112), (4, .null), (3, .int y17096), (2, .int y18114), (0, .ref h0), (1, .int u1)] → W p l e ({ frames := 2, cells := 0, slots := 0, locals := 62 }) s m ([.ref h0, .int u1] : List Value).toArray below meth c H locs 0 0 (MQ below (QT (po_X2_weeksOf kp L f0 h0 u1) G cI cJ cZ cD cR cT A kp L) ([.ref h0, .int u1] : List Value).toArray s 0 0 A) (F0 m 23 ls []) := by
            intro n
            induction n with
            | zero =>
              intro y18112 y18114 b18113 hm H locs ls hW hF hl
              exfalso; omega
            | succ n ih =>
              intro y18112 y18114 b18113 hm H locs ls hW hF hl
              have ih23 := ih
              refine lv_aloadN hx hb dX2_weeksOf_23 (lv_at hl 1 rfl) ?_
              refine lv_ifnullN (tgt := 89) hx hb dX2_weeksOf_25 (by decide) ?_
              refine q_iinc hx hb dX2_weeksOf_89 hl (k := 2) rfl rfl rfl (by omega) (by decide) (fun i18116 ls h18117 hl => ?_)
              have hl : lv_has ls 6 [(3, .int i18116), (5, .int y18112), (4, .null), (2, .int y18114), (0, .ref h0), (1, .int u1)] := hl
              refine lv_goto (tgt := 4) hx hb dX2_weeksOf_92 (by decide) ?_
              exact ih4 f17095 i18116 y18114 (by omega) (by omega) _ _ _ hW hF (lv_sub hl [0, 3, 4, 5] rfl)
          have hk18118 : (0 : Int32).toInt = 0 := rfl
          exact L18115 1 0 y17098 (by decide) (by omega) _ _ _ hW hF (lv_sub hl [0, 1, 2, 3, 4, 5] rfl)
        · have r18108 : RK kp L a18107 9 := k18105 _ rfl
          have hl : lv_has ls 6 [(3, .int y17096), (2, .int y17098), (0, .ref h0), (1, .int u1)] := hl
          show W p l e ({ frames := 2, cells := 0, slots := 0, locals := 62 }) s m ([.ref h0, .int u1] : List Value).toArray below meth c _ _ 0 0 (MQ below (QT (po_X2_weeksOf kp L f0 h0 u1) G cI cJ cZ cD cR cT A kp L) ([.ref h0, .int u1] : List Value).toArray s 0 0 A) (F0 m 18 ls [.ref a18107])
          refine lv_astore (lv' := [(4, .ref a18107), (3, .int y17096), (2, .int y17098), (0, .ref h0), (1, .int u1)]) hx hb dX2_weeksOf_18 hl (by decide) rfl (fun ls hl => ?_)
          refine lv_iconst (v := 0) hx hb dX2_weeksOf_20 (by decide) ?_
          refine lv_istore (lv' := [(5, .int 0), (4, .ref a18107), (3, .int y17096), (2, .int y17098), (0, .ref h0), (1, .int u1)]) hx hb dX2_weeksOf_21 hl (by decide) rfl (fun ls hl => ?_)
          have L18980 : ∀ (n : Nat), ∀ (f18974 : Nat → va_E) (y18977 : Int32) (y18979 : Int32) (m18975 : oI (f18974 h0) 0 = y17100) (m18976 : oR (f18974 h0) 1 = a18101) (b18978 : (0 : Int) ≤ y18977.toInt ∧ y18977.toInt ≤ 12) (hm : (13 : Int) - y18977.toInt ≤ n) (H : Heap) (locs : List Loc) (ls : Array Slot), WS G cI cJ cZ cD cR cT A kp L f18974 s H locs → FM kp L ms_X2_weeksOf f0 f18974 → lv_has ls 6 [(5, .int y18977), (4, .ref a18107), (3, .int y17096), (2, .int y18979), (0, .ref h0), (1, .int u1)] → W p l e ({ frames := 2, cells := 0, slots := 0, locals := 62 }) s m ([.ref h0, .int u1] : List Value).toArray below meth c H locs 0 0 (MQ below (QT (po_X2_weeksOf kp L f0 h0 u1) G cI cJ cZ cD cR cT A kp L) ([.ref h0, .int u1] : List Value).toArray s 0 0 A) (F0 m 23 ls []) := by
            intro n
            induction n with
            | zero =>
              intro f18974 y18977 y18979 m18975 m18976 b18978 hm H locs ls hW hF hl
              have hz := i32_b y18977
              exfalso; omega
            | succ n ih =>
              intro f18974 y18977 y18979 m18975 m18976 b18978 hm H locs ls hW hF hl
              have ih23 := ih
              refine lv_aload hx hb dX2_weeksOf_23 (lv_at hl 1 rfl) ?_
              refine lv_ifnull hx hb dX2_weeksOf_25 ?_
              refine lv_iload hx hb dX2_weeksOf_28 (lv_at hl 0 rfl) ?_
              refine lv_aload hx hb dX2_weeksOf_30 (lv_at hl 1 rfl) ?_
              refine fg_RX2_28 E hW r18108 dX2_weeksOf_32 (fun y18981 m18982 b18983 => ?_)
              refine q_icmp_ge (tgt := 89) hx hb dX2_weeksOf_35 (by decide) rfl rfl (fun c19040 => ?_) (fun c19040 => ?_)
              · refine q_iinc hx hb dX2_weeksOf_89 hl (k := 2) rfl rfl rfl (by omega) (by decide) (fun i19041 ls h19042 hl => ?_)
                have hl : lv_has ls 6 [(3, .int i19041), (5, .int y18977), (4, .ref a18107), (2, .int y18979), (0, .ref h0), (1, .int u1)] := hl
                refine lv_goto (tgt := 4) hx hb dX2_weeksOf_92 (by decide) ?_
                exact ih4 f18974 i19041 y18979 (by omega) (by omega) _ _ _ hW hF (lv_sub hl [0, 3, 4, 5] rfl)
              · refine lv_aload hx hb dX2_weeksOf_38 (lv_at hl 1 rfl) ?_
                refine fg_RX2_40 E hW r18108 dX2_weeksOf_40 (fun a19043 m19044 r19045 => ?_)
                refine lv_iload hx hb dX2_weeksOf_43 (lv_at hl 0 rfl) ?_
                refine gl_643 E hW r19045 ⟨by omega, by omega⟩ dX2_weeksOf_45 (fun y19046 m19047 => ?_)
                refine lv_sipush (v := 258) hx hb dX2_weeksOf_46 (by decide) ?_
                have J19075 : ∀ (f19069 : Nat → va_E) (y19074 : Int32) (m19070 : oI (f19069 a18107) 1 = y18981) (m19071 : oR (f19069 a18107) 3 = a19043) (m19072 : oI (f19069 h0) 0 = y17100) (m19073 : oR (f19069 h0) 1 = a18101) (H : Heap) (locs : List Loc) (ls : Array Slot), WS G cI cJ cZ cD cR cT A kp L f19069 s H locs → FM kp L ms_X2_weeksOf f0 f19069 → lv_has ls 6 [(5, .int y18977), (4, .ref a18107), (3, .int y17096), (2, .int y19074), (0, .ref h0), (1, .int u1)] → W p l e ({ frames := 2, cells := 0, slots := 0, locals := 62 }) s m ([.ref h0, .int u1] : List Value).toArray below meth c H locs 0 0 (MQ below (QT (po_X2_weeksOf kp L f0 h0 u1) G cI cJ cZ cD cR cT A kp L) ([.ref h0, .int u1] : List Value).toArray s 0 0 A) (F0 m 83 ls []) := by
                  intro f19069 y19074 m19070 m19071 m19072 m19073 H locs ls hW hF hl
                  refine q_iinc hx hb dX2_weeksOf_83 hl (k := 0) rfl rfl rfl (by omega) (by decide) (fun i19076 ls h19077 hl => ?_)
                  have hl : lv_has ls 6 [(5, .int i19076), (4, .ref a18107), (3, .int y17096), (2, .int y19074), (0, .ref h0), (1, .int u1)] := hl
                  refine lv_goto (tgt := 23) hx hb dX2_weeksOf_86 (by decide) ?_
                  exact ih23 f19069 i19076 y19074 m19072 m19073 (by omega) (by omega) _ _ _ hW hF (lv_sub hl [0, 1, 2, 3, 4, 5] rfl)
                refine q_icmp_ne (Y := 258) (tgt := 83) hx hb dX2_weeksOf_49 (by decide) rfl rfl (fun c19078 => ?_) (fun c19078 => ?_)
                · exact J19075 f18974 y18979 m18982 m19044 m18975 m18976 _ _ _ hW hF (lv_sub hl [0, 1, 2, 3, 4, 5] rfl)
                · refine lv_aload_n hx hb dX2_weeksOf_52 rfl (lv_at hl 4 rfl) ?_
                  refine lv_iload_n hx hb dX2_weeksOf_53 rfl (lv_at hl 2 rfl) ?_
                  refine lv_iload hx hb dX2_weeksOf_54 (lv_at hl 0 rfl) ?_
                  refine t_callV (As := [.int y17096, .int y18977]) (rest := []) E hW (c_X2_isInForce l G cI cJ cZ cD cR cT kp L f18974 hW.2.2.2 _ h0 y17096 y18977 rh0 (by omega) (by omega)) rh0 (by decide) rfl wk_X2_isInForce tw_696 rfl ⟨Nat.le_of_ble_eq_true rfl, Nat.le_of_ble_eq_true rfl⟩ ⟨rfl, rfl⟩ hl.1 rfl (Nat.le_of_ble_eq_true rfl) dX2_weeksOf_56 ⟨Nat.le_of_ble_eq_true rfl, Nat.le_of_ble_eq_true rfl⟩ (fun v19079 f19080 H locs q19081 hW => ?_)
                  obtain ⟨⟨x19083, rfl, p19084⟩, g19082⟩ := q19081
                  have hF := FM.tr hF g19082 rfl
                  refine q_if_eq (tgt := 83) hx hb dX2_weeksOf_59 (by decide) rfl (fun c19085 => ?_) (fun c19085 => ?_)
                  · exact J19075 f19080 y18979 ((fm_I g19082 r18108 rfl).trans m18982) ((fm_R g19082 r18108 rfl).trans m19044) ((fm_I g19082 rh0 rfl).trans m18975) ((fm_R g19082 rh0 rfl).trans m18976) _ _ _ hW hF (lv_sub hl [0, 1, 2, 3, 4, 5] rfl)
                  · refine lv_aload hx hb dX2_weeksOf_62 (lv_at hl 1 rfl) ?_
                    refine fg_RX2_47 E hW r18108 dX2_weeksOf_64 (fun a19086 m19087 r19088 => ?_)
                    refine lv_iload hx hb dX2_weeksOf_67 (lv_at hl 0 rfl) ?_
                    refine gl_644 E hW r19088 ⟨by omega, by omega⟩ dX2_weeksOf_69 (fun y19089 m19090 b19091 => ?_)
                    refine lv_iload_n hx hb dX2_weeksOf_70 rfl (lv_at hl 5 rfl) ?_
                    refine q_icmp_ne (tgt := 83) hx hb dX2_weeksOf_71 (by decide) rfl rfl (fun c19092 => ?_) (fun c19092 => ?_)
                    · exact J19075 f19080 y18979 ((fm_I g19082 r18108 rfl).trans m18982) ((fm_R g19082 r18108 rfl).trans m19044) ((fm_I g19082 rh0 rfl).trans m18975) ((fm_R g19082 rh0 rfl).trans m18976) _ _ _ hW hF (lv_sub hl [0, 1, 2, 3, 4, 5] rfl)
                    · refine lv_aload hx hb dX2_weeksOf_74 (lv_at hl 1 rfl) ?_
                      refine fg_RX2_50 E hW r18108 dX2_weeksOf_76 (fun a19093 m19094 r19095 => ?_)
                      refine lv_iload hx hb dX2_weeksOf_79 (lv_at hl 0 rfl) ?_
                      refine gl_645 E hW r19095 ⟨by omega, by omega⟩ dX2_weeksOf_81 (fun y19096 m19097 => ?_)
                      refine lv_istore_n (lv' := [(2, .int y19096), (5, .int y18977), (4, .ref a18107), (3, .int y17096), (0, .ref h0), (1, .int u1)]) hx hb dX2_weeksOf_82 rfl hl (by decide) rfl (fun ls hl => ?_)
                      exact J19075 f19080 y19096 ((fm_I g19082 r18108 rfl).trans m18982) ((fm_R g19082 r18108 rfl).trans m19044) ((fm_I g19082 rh0 rfl).trans m18975) ((fm_R g19082 rh0 rfl).trans m18976) _ _ _ hW hF (lv_sub hl [1, 2, 3, 0, 4, 5] rfl)
          have hk19099 : (0 : Int32).toInt = 0 := rfl
          exact L18980 13 f17095 0 y17098 m17101 m18102 (by decide) (by omega) _ _ _ hW hF (lv_sub hl [0, 1, 2, 3, 4, 5] rfl)
  have hk19100 : (0 : Int32).toInt = 0 := rfl
  have hk19101 : (4 : Int32).toInt = 4 := rfl
  exact L17099 21 f0 0 4 (by decide) (by omega) _ _ _ hW hF (lv_sub hl [0, 1, 2, 3] rfl)
